/-! PURE 17: both know the same; the first special call -/
def KE (n : Nat) (ct an nu ct' an' nu' : Nat → Int32) : Prop := ∀ q, q < 17 * n → ct q = ct' q ∧ (ct q ≠ 0 → ∀ r, r < 6 → kV an nu q r = kV an' nu' q r)
theorem KE_of {n : Nat} {ln pn : Nat → Nat} {F : Nat → Int32} {e : Nat} {en : Nat → Int32} (hn : n ≤ 12) {ct an nu ct' an' nu' : Nat → Int32} (b : B01 204 ct) (b' : B01 204 ct') (h : Sol n ln pn F e en (kC ct an nu)) (hb : Bel n ln pn F e en (kC ct an nu)) (h' : Sol n ln pn F e en (kC ct' an' nu')) (hb' : Bel n ln pn F e en (kC ct' an' nu')) : KE n ct an nu ct' an' nu' := fun q hq => by
  obtain ⟨a1, a2⟩ := Sol_one h hb h' hb' hq
  refine ⟨?_, fun hc => a2 (kC_t.mpr hc)⟩
  cases hc : (kC ct an nu).1 q
  · rw [kC_f.mp hc, kC_f.mp (a1.symm.trans hc)]
  · rw [(b q (by omega)).resolve_left (kC_t.mp hc), (b' q (by omega)).resolve_left (kC_t.mp (a1.symm.trans hc))]
theorem opv_e {v v' : Nat → Option Int32} (h : ∀ r, r < 6 → v r = v' r) {o : Int32} (ho : isOpd o) : opv v o = opv v' o := vle_a (opv_m (rle_e h) ho) (opv_m (rle_e (fun r hr => (h r hr).symm)) ho)
theorem q_has2 {q : Nat} (hq : q < 204) {o : Int32} (ho : isOpd o) {an nu an' nu' : Nat → Int32} (h : ∀ r, r < 6 → kV an nu q r = kV an' nu' q r) :
    (opv (kV an nu q) o = none ∧ f_X1_hasNumber (nI q) o an = some 0 ∧ f_X8_has (nI q) o an' = some 0) ∨
    ∃ y, opv (kV an nu q) o = some y ∧ f_X1_hasNumber (nI q) o an = some 1 ∧ f_X1_numberOf (nI q) o nu = some y ∧ f_X8_has (nI q) o an' = some 1 ∧ f_X8_valueAt (nI q) o nu' = some y := by
  have e := opv_e h ho
  rcases q_has hq ho an nu with ⟨a, b, _⟩ | ⟨y, a, b, c, _⟩
  · rcases q_has hq ho an' nu' with ⟨a', _, b'⟩ | ⟨y', a', _, _, _, _⟩
    · exact Or.inl ⟨a, b, b'⟩
    · rw [← e, a] at a'; cases a'
  · rcases q_has hq ho an' nu' with ⟨a', _, b'⟩ | ⟨y', a', _, _, b', c'⟩
    · rw [← e, a] at a'; cases a'
    · rw [← e, a] at a'; cases a'
      exact Or.inr ⟨y, a, b, c, b', c'⟩
def spc (F an nu : Nat → Int32) (q g s r : Nat) : Prop := kV an nu (17 * g) r = none ∧ opv (kV an nu q) (F (s + 3 + r)) ≠ none
theorem q_anyR {q r : Nat} {an nu : Nat → Int32} : kV an nu q r = none ↔ an (6 * q + r) ≠ 0 := by
  unfold kV
  by_cases h : an (6 * q + r) = 0
  · rw [if_pos h]; exact ⟨fun x => (by cases x), fun x => absurd h x⟩
  · rw [if_neg h]; exact ⟨fun _ => h, fun _ => rfl⟩
/-- is a call special: both say the same -/
theorem q_spec {n : Nat} {ln pn : Nat → Nat} {F : Nat → Int32} {e : Nat} {en pc ls par len now tab : Nat → Int32} (hW : WP n pn ln pc ls F e en) (hR : RP n ln pn F e en par len now tab) (hn : n ≤ 12) {N : Nat} (hN : 20000 ≤ N) {ct an nu ct' an' nu' : Nat → Int32} (hK : KE n ct an nu ct' an' nu') (hS : Sol n ln pn F e en (kC ct an nu)) {f i g d : Nat} (hf : f < n) (hi : i < ln f) (hg : g < n) (hd : d < 6) (e0 : F (96 * f + 6 * i) = nI 10) (e1 : F (96 * f + 6 * i + 1) = nI d) (e2 : F (96 * f + 6 * i + 2) = nI g) (hu : ∀ j, j < 3 → isOpd (F (96 * f + 6 * i + 3 + j))) (hc : ct (17 * f + i) ≠ 0) :
    ∃ b : Int32, (b = 0 ∨ b = 1) ∧ f_X3_isSpecial N (nI f) (nI i) pc ls F an = some b ∧ f_X8_isSpecial_27 N (nI (16 * f + i)) par len now ct' an' N (nI g) 0 0 = some b := by
  obtain ⟨l1, l2, l3, l4⟩ := hW.1 f hf
  obtain ⟨g1, g2, g3, g4⟩ := hW.1 g hg
  -- the called function's first place is come to
  have hA : Arr n ln pn F e en f i (kV an nu (17 * f + i)) (17 * g) (ent pn F (96 * f + 6 * i) g (kV an nu (17 * f + i))) := ⟨10, d, by omega, hd, e0, e1, Or.inl (Or.inl ⟨rfl, g, hg, e2, rfl, rfl⟩)⟩
  have hcg : ct (17 * g) ≠ 0 := kC_t.mp (hS.2.2 f hf i hi (kC_t.mpr hc) _ _ hA).1
  have rowq := (hK (17 * f + i) (by omega)).2 hc
  have rowg := (hK (17 * g) (by omega)).2 hcg
  have eq : (f_X8_placeOf (nI (16 * f + i))) = some (nI (17 * f + i)) := by
    unfold f_X8_placeOf
    rw [q_bind (q_dv16 (by omega)), q_bind (q_rm16 (by omega)), q_17, show (16 * f + i) / 16 = f by omega, show (16 * f + i) % 16 = i by omega]
  have m6 : (6 : Int32) * nI (16 * f + i) = nI (96 * f + 6 * i) := by rw [q_m6, show 6 * (16 * f + i) = 96 * f + 6 * i by omega]
  have hasg : ∀ r, r < 6 → f_X1_hasNumber (nI (17 * g)) (nI r) an = some (if an (6 * (17 * g) + r) = 0 then 1 else 0) := fun r hr => q_hasR (by omega) hr
  have loopC : ∀ (j r m : Nat), r + j = pn g → ((∃ r', r ≤ r' ∧ r' < pn g ∧ spc F an nu (17 * f + i) g (96 * f + 6 * i) r') ∧ f_X3_isSpecial_37 N (nI f) (nI i) pc ls F an (m + 1 + j) (nI (17 * f + i)) (nI g) (nI (17 * g)) (nI r) = some 1) ∨ ((¬ ∃ r', r ≤ r' ∧ r' < pn g ∧ spc F an nu (17 * f + i) g (96 * f + 6 * i) r') ∧ f_X3_isSpecial_37 N (nI f) (nI i) pc ls F an (m + 1 + j) (nI (17 * f + i)) (nI g) (nI (17 * g)) (nI r) = some 0) := by
    intro j
    induction j with
    | zero =>
      intro r m hr
      exact Or.inr ⟨fun ⟨r', h1, h2, _⟩ => by omega, by rw [show m + 1 + 0 = m + 1 from rfl, f_X3_isSpecial_37, q_bind (q_rd (by omega) (by omega)), g1, if_pos (nI_le (by omega) (by omega))]⟩
    | succ j ih =>
      intro r m hr
      refine Classical.byContradiction (fun hgoal => ?_)
      have next : ¬ spc F an nu (17 * f + i) g (96 * f + 6 * i) r → f_X3_isSpecial_37 N (nI f) (nI i) pc ls F an (m + 1 + (j + 1)) (nI (17 * f + i)) (nI g) (nI (17 * g)) (nI r) = f_X3_isSpecial_37 N (nI f) (nI i) pc ls F an (m + 1 + j) (nI (17 * f + i)) (nI g) (nI (17 * g)) (nI (r + 1)) → False := fun hn' he' => hgoal (by
        rw [he']
        rcases ih (r + 1) m (by omega) with ⟨⟨r', a1, a2, a3⟩, b⟩ | ⟨a, b⟩
        · exact Or.inl ⟨⟨r', by omega, a2, a3⟩, b⟩
        · refine Or.inr ⟨fun ⟨r', a1, a2, a3⟩ => ?_, b⟩
          by_cases e : r' = r
          · subst e; exact hn' a3
          · exact a ⟨r', by omega, a2, a3⟩)
      have pre : f_X3_isSpecial_37 N (nI f) (nI i) pc ls F an (m + 1 + (j + 1)) (nI (17 * f + i)) (nI g) (nI (17 * g)) (nI r) = if an (6 * (17 * g) + r) = 0 then f_X3_isSpecial_37 N (nI f) (nI i) pc ls F an (m + 1 + j) (nI (17 * f + i)) (nI g) (nI (17 * g)) (nI (r + 1)) else (f_X1_hasNumber (nI (17 * f + i)) (F (96 * f + 6 * i + 3 + r)) an).bind (fun o6 => if o6 = 0 then f_X3_isSpecial_37 N (nI f) (nI i) pc ls F an (m + 1 + j) (nI (17 * f + i)) (nI g) (nI (17 * g)) (nI (r + 1)) else some 1) := by
        rw [show m + 1 + (j + 1) = m + 1 + j + 1 from rfl, f_X3_isSpecial_37, q_bind (q_rd (by omega) (by omega)), g1, if_neg (nI_ge (by omega) (by omega)), q_bind (hasg r (by omega)), show (3 : Int32) + nI r = nI (3 + r) from nI_add 3 r, q_bind (q_fieldOf (by omega) (by omega) (by omega)), show 96 * f + 6 * i + (3 + r) = 96 * f + 6 * i + 3 + r by omega, nI_1]
        by_cases h0 : an (6 * (17 * g) + r) = 0
        · rw [if_pos h0, if_pos h0, if_neg (by decide)]
        · rw [if_neg h0, if_neg h0, if_pos rfl]
      by_cases h0 : an (6 * (17 * g) + r) = 0
      · exact next (fun x => q_anyR.mp x.1 h0) (by rw [pre, if_pos h0])
      · rcases q_has (q := 17 * f + i) (by omega) (hu r (by omega)) an nu with ⟨a, b, _⟩ | ⟨y, a, b, _⟩
        · exact next (fun x => x.2 a) (by rw [pre, if_neg h0, q_bind b, if_pos rfl])
        · exact hgoal <| Or.inl ⟨⟨r, by omega, by omega, q_anyR.mpr h0, fun x => by rw [a] at x; cases x⟩, by rw [pre, if_neg h0, q_bind b, if_neg (show ¬ (1 : Int32) = 0 by decide)]⟩
  have loopR : ∀ (j r m : Nat) (z : Int32), r + j = pn g → (z = 0 ∨ z = 1) → ((z = 1 ∨ ∃ r', r ≤ r' ∧ r' < pn g ∧ spc F an nu (17 * f + i) g (96 * f + 6 * i) r') ∧ f_X8_isSpecial_27 N (nI (16 * f + i)) par len now ct' an' (m + 1 + j) (nI g) z (nI r) = some 1) ∨ ((z = 0 ∧ ¬ ∃ r', r ≤ r' ∧ r' < pn g ∧ spc F an nu (17 * f + i) g (96 * f + 6 * i) r') ∧ f_X8_isSpecial_27 N (nI (16 * f + i)) par len now ct' an' (m + 1 + j) (nI g) z (nI r) = some 0) := by
    intro j
    induction j with
    | zero =>
      intro r m z hr hz
      have : f_X8_isSpecial_27 N (nI (16 * f + i)) par len now ct' an' (m + 1 + 0) (nI g) z (nI r) = some z := by
        rw [show m + 1 + 0 = m + 1 from rfl, f_X8_isSpecial_27, q_bind (q_rd (by omega) (by omega)), (hR.1 g hg).1, if_pos (nI_le (by omega) (by omega)), q_bind (q_zr hz)]
      rw [this]
      rcases hz with rfl | rfl
      · exact Or.inr ⟨⟨rfl, fun ⟨r', h1, h2, _⟩ => by omega⟩, rfl⟩
      · exact Or.inl ⟨Or.inl rfl, rfl⟩
    | succ j ih =>
      intro r m z hr hz
      refine Classical.byContradiction (fun hgoal => ?_)
      have m102 : (102 : Int32) * nI g + nI r = nI (6 * (17 * g) + r) := by
        rw [show (102 : Int32) = nI 102 from rfl, pk_mul, nI_add, show 102 * g + r = 6 * (17 * g) + r by omega]
      have hnow : g_rd 1152 now (nI (96 * f + 6 * i) + 3 + nI r) = some (F (96 * f + 6 * i + 3 + r)) := by
        rw [show nI (96 * f + 6 * i) + 3 = nI (96 * f + 6 * i + 3) from nI_add _ 3, nI_add]
        exact RP_rd hR hn hf hi l4 (w := 3 + r) (by omega) (by omega)
      have pre : f_X8_isSpecial_27 N (nI (16 * f + i)) par len now ct' an' (m + 1 + (j + 1)) (nI g) z (nI r) = if z = 0 then if an' (6 * (17 * g) + r) = 0 then f_X8_isSpecial_27 N (nI (16 * f + i)) par len now ct' an' (m + 1 + j) (nI g) 0 (nI (r + 1)) else (f_X8_has (nI (17 * f + i)) (F (96 * f + 6 * i + 3 + r)) an').bind (fun o9 => if o9 = 0 then f_X8_isSpecial_27 N (nI (16 * f + i)) par len now ct' an' (m + 1 + j) (nI g) 0 (nI (r + 1)) else f_X8_isSpecial_27 N (nI (16 * f + i)) par len now ct' an' (m + 1 + j) (nI g) 1 (nI (r + 1))) else f_X8_isSpecial_27 N (nI (16 * f + i)) par len now ct' an' (m + 1 + j) (nI g) 1 (nI (r + 1)) := by
        rw [show m + 1 + (j + 1) = m + 1 + j + 1 from rfl, f_X8_isSpecial_27, q_bind (q_rd (by omega) (by omega)), (hR.1 g hg).1, if_neg (nI_ge (by omega) (by omega)), m102, q_bind (q_rd (n := 1224) (by omega) (by omega)), q_bind eq, m6, q_bind hnow, nI_1]
      have agn : an' (6 * (17 * g) + r) ≠ 0 ↔ kV an nu (17 * g) r = none := by rw [rowg r (by omega)]; exact q_anyR.symm
      have next0 : z = 0 → ¬ spc F an nu (17 * f + i) g (96 * f + 6 * i) r → f_X8_isSpecial_27 N (nI (16 * f + i)) par len now ct' an' (m + 1 + (j + 1)) (nI g) z (nI r) = f_X8_isSpecial_27 N (nI (16 * f + i)) par len now ct' an' (m + 1 + j) (nI g) 0 (nI (r + 1)) → False := fun hz0 hn' he' => hgoal (by
        rw [he']
        rcases ih (r + 1) m 0 (by omega) (Or.inl rfl) with ⟨a, b⟩ | ⟨⟨_, a⟩, b⟩
        · rcases a with a | ⟨r', a1, a2, a3⟩
          · exact absurd a (by decide)
          · exact Or.inl ⟨Or.inr ⟨r', by omega, a2, a3⟩, b⟩
        · refine Or.inr ⟨⟨hz0, fun ⟨r', a1, a2, a3⟩ => ?_⟩, b⟩
          by_cases e : r' = r
          · subst e; exact hn' a3
          · exact a ⟨r', by omega, a2, a3⟩)
      have next1 : (z = 1 ∨ spc F an nu (17 * f + i) g (96 * f + 6 * i) r) → f_X8_isSpecial_27 N (nI (16 * f + i)) par len now ct' an' (m + 1 + (j + 1)) (nI g) z (nI r) = f_X8_isSpecial_27 N (nI (16 * f + i)) par len now ct' an' (m + 1 + j) (nI g) 1 (nI (r + 1)) → False := fun hz1 he' => hgoal (by
        rw [he']
        rcases ih (r + 1) m 1 (by omega) (Or.inr rfl) with ⟨_, b⟩ | ⟨⟨a, _⟩, b⟩
        · exact Or.inl ⟨hz1.imp id (fun x => ⟨r, by omega, by omega, x⟩), b⟩
        · exact absurd a (by decide))
      rcases hz with rfl | rfl
      · by_cases h0 : an' (6 * (17 * g) + r) = 0
        · exact next0 rfl (fun x => agn.mpr x.1 h0) (by rw [pre, if_pos rfl, if_pos h0])
        · rcases q_has2 (q := 17 * f + i) (by omega) (hu r (by omega)) rowq with ⟨a, _, b⟩ | ⟨y, a, _, _, b, _⟩
          · exact next0 rfl (fun x => x.2 a) (by rw [pre, if_pos rfl, if_neg h0, q_bind b, if_pos rfl])
          · exact next1 (Or.inr ⟨agn.mp h0, fun x => by rw [a] at x; cases x⟩) (by rw [pre, if_pos rfl, if_neg h0, q_bind b, if_neg (show ¬ (1 : Int32) = 0 by decide)])
      · exact next1 (Or.inl rfl) (by rw [pre, if_neg (show ¬ (1 : Int32) = 0 by decide)])
  have hC : f_X3_isSpecial N (nI f) (nI i) pc ls F an = f_X3_isSpecial_37 N (nI f) (nI i) pc ls F an N (nI (17 * f + i)) (nI g) (nI (17 * g)) (nI 0) := by
    unfold f_X3_isSpecial
    rw [q_bind (q_place hW hn hf hi), q_bind (show f_X4_fieldOf (nI f) (nI i) 2 F = _ from q_fieldOf (w := 2) (by omega) (by omega) (by omega)), e2, q_bind (show f_X4_placeOf (nI g) 0 ls = some (nI (17 * g)) from by
      have := q_placeOf (p := 0) (ln := ln) (show g < 12 by omega) (by omega) g3 g4
      rw [Nat.zero_min] at this; exact this)]
    rfl
  have a := loopC (pn g) 0 (N - pn g - 1) (by omega)
  have b := loopR (pn g) 0 (N - pn g - 1) 0 (by omega) (Or.inl rfl)
  rw [show N - pn g - 1 + 1 + pn g = N by omega] at a b
  rcases a with ⟨a1, a2⟩ | ⟨a1, a2⟩
  · rcases b with ⟨_, b2⟩ | ⟨⟨_, b1⟩, _⟩
    · exact ⟨1, Or.inr rfl, hC.trans a2, b2⟩
    · exact absurd a1 b1
  · rcases b with ⟨b1, _⟩ | ⟨_, b2⟩
    · exact absurd (b1.resolve_left (by decide)) a1
    · exact ⟨0, Or.inl rfl, hC.trans a2, b2⟩
