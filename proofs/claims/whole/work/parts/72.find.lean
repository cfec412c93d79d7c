/-! PURE 10: the class's finder -/
theorem q_entryE {e : Nat} (h0 : 0 < e) (he : e ≤ 4) (x : Int32) : ∃ j, j < e ∧ isE e x j ∧ ∀ tab : Nat → Int32, f_X8_entry x (nI e) tab = some (tab j) := by
  have hrm : g_rm x (nI e) = some (x % nI e) := by
    unfold g_rm; rw [if_neg (nI_ne0 h0 (by omega)), irem_eq_mod]
  have key : ∀ j, j < e → (∀ en : Nat → Int32, f_X4_entryFor x (nI e) en = (g_rd 4 en (nI j)).bind (fun v3 => some v3)) → (∀ tab : Nat → Int32, f_X8_entry x (nI e) tab = (g_rd 4 tab (nI j)).bind (fun v3 => some v3)) → ∃ j, j < e ∧ isE e x j ∧ ∀ tab : Nat → Int32, f_X8_entry x (nI e) tab = some (tab j) := fun j hj a b =>
    ⟨j, hj, fun en => by rw [a en, q_bind (q_rd (by omega) (by omega))], fun tab => by rw [b tab, q_bind (q_rd (by omega) (by omega))]⟩
  have hr : (x % nI e).toInt = x.toInt.tmod e := by rw [Int32.toInt_mod, nI_toInt (by omega)]
  have hlt : x.toInt.tmod e < e := Int.tmod_lt_of_pos _ (by omega)
  have hgt : -(e : Int) < x.toInt.tmod e := Int.lt_tmod_of_pos x.toInt (show (0 : Int) < e by omega)
  unfold f_X4_entryFor f_J9_floorMod_7cf53 f_X8_entry at key
  have hz : (0 : Int32).toInt = 0 := by decide
  by_cases hx : 0 ≤ x
  · have hx' : 0 ≤ x.toInt := by have := Int32.le_iff_toInt_le.mp hx; rw [hz] at this; exact this
    have hn : 0 ≤ x.toInt.tmod e := Int.tmod_nonneg _ hx'
    have hj : x % nI e = nI (x.toInt.tmod e).toNat := Int32.toInt_inj.mp (by rw [hr, nI_toInt (by omega)]; omega)
    refine key (x.toInt.tmod e).toNat (by omega) (fun en => ?_) (fun tab => ?_)
    · rw [if_neg (nI_nle h0 (by omega)), q_bind hrm, if_pos ((q_xor (nI_pos' (by omega))).mpr hx), hj, q_bind rfl]
    · rw [q_bind hrm, hj, if_pos (nI_pos' (by omega))]
  · have hx' : x.toInt < 0 := by
      have := fun (q : (0 : Int32).toInt ≤ x.toInt) => hx (Int32.le_iff_toInt_le.mpr q)
      rw [hz] at this; exact Int.not_le.mp this
    have hn : x.toInt.tmod e ≤ 0 := by
      have h2 := Int.tmod_nonneg (a := -x.toInt) (e : Int) (by omega)
      rw [Int.neg_tmod] at h2; omega
    have hxor := fun q => hx ((q_xor (nI_pos' (n := e) (by omega))).mp q)
    by_cases h1 : x.toInt.tmod e = 0
    · have hj : x % nI e = nI 0 := Int32.toInt_inj.mp (by rw [hr, h1]; rfl)
      refine key 0 h0 (fun en => ?_) (fun tab => ?_)
      · rw [if_neg (nI_nle h0 (by omega)), q_bind hrm, if_neg hxor, if_pos (show x % nI e = 0 from hj), hj, q_bind rfl]
      · rw [q_bind hrm, hj, if_pos (by decide)]
    · have hne : ¬ x % nI e = 0 := fun q => h1 (by rw [← hr, q]; rfl)
      have hneg : ¬ 0 ≤ x % nI e := fun q => by
        have := Int32.le_iff_toInt_le.mp q
        rw [hr, hz] at this; omega
      have hj : x % nI e + nI e = nI (x.toInt.tmod e + e).toNat := Int32.toInt_inj.mp (by
        rw [Int32.toInt_add, hr, nI_toInt (by omega), nI_toInt (by omega), Int.bmod_eq_of_le (by omega) (by omega)]; omega)
      refine key (x.toInt.tmod e + e).toNat (by omega) (fun en => ?_) (fun tab => ?_)
      · rw [if_neg (nI_nle h0 (by omega)), q_bind hrm, if_neg hxor, if_neg hne, hj, q_bind rfl]
      · rw [q_bind hrm, if_neg hneg, hj]
theorem isE_u {e : Nat} {y : Int32} {i j : Nat} (hi : i < 100) (hj : j < 100) (h : isE e y i) (k : isE e y j) : i = j := by
  have a := h (fun x => nI x)
  have b := k (fun x => nI x)
  exact (nI_eq (by omega) (by omega)).mp (Option.some.inj (a.symm.trans b))
theorem ArrC_m {n : Nat} {pn : Nat → Nat} {F : Nat → Int32} {e : Nat} {en : Nat → Int32} {op s : Nat} (hu : ∀ j, j < usesN op → isOpd (F (s + 3 + j))) (hx : op = 11 → isOpd (F (s + 2))) (hp : ∀ g, g < n → pn g ≤ 3) {v v' : Nat → Option Int32} (h : rle v v') {t : Nat} {row : Nat → Option Int32} (ha : ArrC n pn F e en op s v t row) : ∃ row', ArrC n pn F e en op s v' t row' ∧ rle row row' := by
  rcases ha with ⟨a1, g, a2, a3, a4, a5⟩ | ⟨a1, j, g, a2, a3, a4, a5, a6, a7⟩
  · exact ⟨_, Or.inl ⟨a1, g, a2, a3, a4, rfl⟩, by rw [a5]; exact ent_m hp a2 hu (Or.inl a1) h⟩
  · exact ⟨_, Or.inr ⟨a1, j, g, a2, a3, a4, fun y hy => a5 y (vle_s (opv_m h (hx a1)) hy), a6, rfl⟩, by rw [a7]; exact ent_m hp a3 hu (Or.inr a1) h⟩
theorem ArrN_m {ln : Nat → Nat} {F : Nat → Int32} {e op d f p s : Nat} (hu : ∀ j, j < usesN op → isOpd (F (s + 3 + j))) {v v' : Nat → Option Int32} (h : rle v v') {t : Nat} {row : Nat → Option Int32} (ha : ArrN ln F e op d f p s v t row) : ∃ row', ArrN ln F e op d f p s v' t row' ∧ rle row row' := by
  rcases ha with ⟨a1, x, a2, a3, a4, a5⟩ | ⟨a1, a2, a3⟩
  · refine ⟨_, Or.inl ⟨?_, x, a2, a3, a4, rfl⟩, by rw [a5]; exact chg_m hu h⟩
    rcases a1 with a1 | ⟨a1, b1⟩
    · exact Or.inl a1
    · exact Or.inr ⟨a1, fun q => b1 (vle_s (opv_m h (hu 0 (by rw [a1]; decide))) q)⟩
  · refine ⟨_, Or.inr ⟨?_, a2, rfl⟩, by rw [a3]; exact chg_m hu h⟩
    rcases a1 with a1 | ⟨a1, b1⟩
    · exact Or.inl a1
    · refine Or.inr ⟨a1, ?_⟩
      have hv := opv_m h (hu 0 (by rw [a1]; decide))
      rcases b1 with b1 | b1
      · exact Or.inl (vle_n hv b1)
      · rcases hv with q | q
        · exact Or.inl q
        · exact Or.inr (by rw [show s + 3 + 0 = s + 3 from rfl] at q; rw [← q]; exact b1)
theorem msum_u {f g : Nat → Nat} {t : Nat} : ∀ {n : Nat}, t < n → (∀ q, q < n → q ≠ t → g q = f q) → g t = f t + 1 → msum g n = msum f n + 1
  | 0, h, _, _ => absurd h (Nat.not_lt_zero _)
  | n + 1, ht, h, hg => by
    show msum g n + g n = msum f n + f n + 1
    by_cases e : t = n
    · subst e
      rw [msum_e (n := t) (f := g) (g := f) (fun q hq => h q (by omega) (by omega)), hg]; omega
    · rw [msum_u (n := n) (by omega) (fun q hq hne => h q (by omega) hne) hg, h n (by omega) (by omega)]; omega
theorem msum_0 {f : Nat → Nat} {t : Nat} : ∀ {n : Nat}, msum f n = 0 → t < n → f t = 0
  | 0, _, h => absurd h (Nat.not_lt_zero _)
  | n + 1, h, ht => by
    have h' : msum f n + f n = 0 := h
    by_cases e : t = n
    · subst e; omega
    · exact msum_0 (n := n) (by omega) (by omega)
/-- the class's state while it finds -/
def CI (n pops : Nat) (ct an nu iw wt : Nat → Int32) (w : Nat) : Prop := B01 204 ct ∧ B01 1224 an ∧ w = msum (fun q => if iw q = 0 then 0 else 1) 204 ∧ (∀ q, q < 17 * n → iw q ≠ 0 → ct q ≠ 0) ∧ (∃ wq : Nat → Nat, (∀ i, i < w → wt i = nI (wq i) ∧ wq i < 17 * n ∧ iw (wq i) ≠ 0) ∧ ∀ i j, i < j → j < w → wq i ≠ wq j) ∧ pops + w ≤ mu (17 * n) (kC ct an nu)
def Grow (n : Nat) (K : KS) (iw : Nat → Int32) (K' : KS) (iw' : Nat → Int32) : Prop := kle (17 * n) K K' ∧ (∀ q, q < 17 * n → iw q ≠ 0 → iw' q ≠ 0) ∧ ∀ q, q < 17 * n → iw' q ≠ 0 ∨ (K'.1 q = K.1 q ∧ ∀ r, r < 6 → K'.2 q r = K.2 q r)
theorem Grow_r (n : Nat) (K : KS) (iw : Nat → Int32) : Grow n K iw K iw := ⟨kle_r _ _, fun _ _ h => h, fun _ _ => Or.inr ⟨rfl, fun _ _ => rfl⟩⟩
theorem Grow_t {n : Nat} {K K' K'' : KS} {iw iw' iw'' : Nat → Int32} (h : Grow n K iw K' iw') (k : Grow n K' iw' K'' iw'') : Grow n K iw K'' iw'' := by
  refine ⟨kle_t h.1 k.1, fun q hq x => k.2.1 q hq (h.2.1 q hq x), fun q hq => ?_⟩
  rcases k.2.2 q hq with a | ⟨a1, a2⟩
  · exact Or.inl a
  · rcases h.2.2 q hq with b | ⟨b1, b2⟩
    · exact Or.inl (k.2.1 q hq b)
    · exact Or.inr ⟨a1.trans b1, fun r hr => (a2 r hr).trans (b2 r hr)⟩
theorem q_arrive {n : Nat} {ln pn : Nat → Nat} {F : Nat → Int32} {e : Nat} {en pc ls : Nat → Int32} (hW : WP n pn ln pc ls F e en) (hn : n ≤ 12) {N : Nat} (hN : 20000 ≤ N) {g x t w pops : Nat} (hg : g < n) (hx : x ≤ 16) (ht : t = 17 * g + min x (ln g)) {ct an nu ra rn iw wt : Nat → Int32} {row : Nat → Option Int32} (hC : CI n pops ct an nu iw wt w) (hra : B01 6 ra) (hB : Bel n ln pn F e en (kC ct an nu)) (hrow : ∀ r, r < 6 → rV ra rn r = row r) (hJ : Jus n ln pn F e en t row) :
    ∃ (w' : Nat) (ct' an' nu' iw' wt' : Nat → Int32), f_X0_arriveAt N (nI g) (nI x) (nI w) ls ct an nu ra rn iw wt = some (nI w', ct', an', nu', iw', wt') ∧ CI n pops ct' an' nu' iw' wt' w' ∧ Bel n ln pn F e en (kC ct' an' nu') ∧ Grow n (kC ct an nu) iw (kC ct' an' nu') iw' ∧ (kC ct' an' nu').1 t = true ∧ rle row ((kC ct' an' nu').2 t) := by
  obtain ⟨c1, c2, c3, c4, ⟨wq, c5, c6⟩, c7⟩ := hC
  obtain ⟨l1, l2, l3, l4⟩ := hW.1 g hg
  have htM : t < 17 * n := by omega
  have ht204 : t < 204 := by omega
  obtain ⟨c, ct', an', nu', j1, j2, j3, j4, j5⟩ := q_join (q := t) ht204 hN (rn := rn) (nu := nu) c1 c2 hra
  have hB' : Bel n ln pn F e en (kC ct' an' nu') := fun S hS => jn_bel j4 (hB S hS) (hJ S hS).1 (rle_t (rle_e hrow) (hJ S hS).2)
  have hrow' : rle row ((kC ct' an' nu').2 t) := rle_t (rle_e (fun r hr => (hrow r hr).symm)) (jn_row j4)
  have hle := jn_le j4 (17 * n)
  have hct : ∀ q, ct q ≠ 0 → ct' q ≠ 0 := fun q hq => by
    by_cases e : q = t
    · subst e; exact kC_t.mp j4.1
    · have := (j4.2.1 q e).1
      exact kC_t.mp (this.trans (kC_t.mpr hq))
  unfold f_X0_arriveAt
  rw [q_bind (q_placeOf (by omega) (by omega) l3 l4), ← ht, q_bind j1]
  rcases j5 with ⟨rfl, j5⟩ | ⟨rfl, j5⟩
  · rw [if_pos rfl]
    exact ⟨w, ct', an', nu', iw, wt, rfl, ⟨j2, j3, c3, fun q hq h => hct q (c4 q hq h), ⟨wq, c5, c6⟩, Nat.le_trans c7 (mu_m hle)⟩, hB', ⟨hle, fun _ _ h => h, fun q _ => Or.inr (jn_same j4 j5 q)⟩, j4.1, hrow'⟩
  · have hmu := jn_mu j4 htM j5
    rw [if_neg (show ¬ (1 : Int32) = 0 by decide), q_bind (q_rd ht204 (by omega))]
    by_cases hi : iw t = 0
    · have hw : w < 204 := by
        have := msum_lt (f := fun q => if iw q = 0 then 0 else 1) (g := fun _ => 1) (t := t) (n := 204) (fun q _ => by
          show (if iw q = 0 then 0 else 1) ≤ 1
          split <;> omega) ht204 (by show (if iw t = 0 then 0 else 1) < 1; rw [if_pos hi]; omega)
        have h2 := msum_c (c := 1) (f := fun _ => 1) (n := 204) (fun q _ => Nat.le_refl _)
        omega
      rw [if_pos hi, q_bind (q_wz ht204 (by omega) (Or.inr rfl)), q_bind (q_wr hw (by omega)), nI_1]
      refine ⟨w + 1, ct', an', nu', upd iw t 1, upd wt w (nI t), rfl, ⟨j2, j3, ?_, fun q hq h => ?_, ⟨nup wq w t, fun i hi' => ?_, fun i j hij hj => ?_⟩, by omega⟩, hB', ⟨hle, fun q hq h => ?_, fun q hq => ?_⟩, j4.1, hrow'⟩
      · refine (show msum _ 204 = w + 1 from ?_).symm
        rw [c3]
        refine msum_u ht204 (fun q _ hne => ?_) ?_
        · show (if upd iw t 1 q = 0 then 0 else 1) = if iw q = 0 then 0 else 1
          rw [q_upd_n hne]
        · show (if upd iw t 1 t = 0 then 0 else 1) = (if iw t = 0 then 0 else 1) + 1
          rw [q_upd_s, if_pos hi, if_neg (by decide)]
      · by_cases e : q = t
        · subst e; exact kC_t.mp j4.1
        · rw [q_upd_n e] at h; exact hct q (c4 q hq h)
      · by_cases e : i = w
        · subst e; rw [q_upd_s, nup_s, q_upd_s]; exact ⟨rfl, htM, by decide⟩
        · obtain ⟨d1, d2, d3⟩ := c5 i (by omega)
          rw [q_upd_n e, nup_n e]
          refine ⟨d1, d2, ?_⟩
          by_cases e2 : wq i = t
          · rw [e2, q_upd_s]; decide
          · rw [q_upd_n e2]; exact d3
      · rw [nup_n (show i ≠ w by omega)]
        by_cases e : j = w
        · subst e; rw [nup_s]
          exact fun x => (c5 i hij).2.2 (by rw [x]; exact hi)
        · rw [nup_n e]; exact c6 i j hij (by omega)
      · by_cases e : q = t
        · subst e; rw [q_upd_s]; decide
        · rw [q_upd_n e]; exact h
      · by_cases e : q = t
        · subst e; left; rw [q_upd_s]; decide
        · exact Or.inr (j4.2.1 q e)
    · rw [if_neg hi]
      refine ⟨w, ct', an', nu', iw, wt, rfl, ⟨j2, j3, c3, fun q hq h => hct q (c4 q hq h), ⟨wq, c5, c6⟩, by omega⟩, hB', ⟨hle, fun _ _ h => h, fun q _ => ?_⟩, j4.1, hrow'⟩
      by_cases e : q = t
      · subst e; exact Or.inl hi
      · exact Or.inr (j4.2.1 q e)
theorem q_place {n : Nat} {ln pn : Nat → Nat} {F : Nat → Int32} {e : Nat} {en pc ls : Nat → Int32} (hW : WP n pn ln pc ls F e en) (hn : n ≤ 12) {f p : Nat} (hf : f < n) (hp : p < ln f) : f_X4_placeOf (nI f) (nI p) ls = some (nI (17 * f + p)) := by
  obtain ⟨l1, l2, l3, l4⟩ := hW.1 f hf
  rw [q_placeOf (by omega) (by omega) l3 l4, Nat.min_eq_left (by omega)]
theorem q_into {n : Nat} {ln pn : Nat → Nat} {F : Nat → Int32} {e : Nat} {en pc ls : Nat → Int32} (hW : WP n pn ln pc ls F e en) (hn : n ≤ 12) {N : Nat} (hN : 20000 ≤ N) {f p g w pops : Nat} (hf : f < n) (hp : p < ln f) (hg : g < n) (hop : ∀ j, j < 3 → isOpd (F (96 * f + 6 * p + 3 + j))) {ct an nu ra rn iw wt : Nat → Int32} (hC : CI n pops ct an nu iw wt w) (hra : B01 6 ra) (hB : Bel n ln pn F e en (kC ct an nu)) (hJ : Jus n ln pn F e en (17 * g) (ent pn F (96 * f + 6 * p) g (kV an nu (17 * f + p)))) :
    ∃ (w' : Nat) (ct' an' nu' ra' rn' iw' wt' : Nat → Int32), f_X0_goInto N (nI f) (nI p) (nI g) (nI w) pc ls F ct an nu ra rn iw wt = some (nI w', ct', an', nu', ra', rn', iw', wt') ∧ B01 6 ra' ∧ CI n pops ct' an' nu' iw' wt' w' ∧ Bel n ln pn F e en (kC ct' an' nu') ∧ Grow n (kC ct an nu) iw (kC ct' an' nu') iw' ∧ (kC ct' an' nu').1 (17 * g) = true ∧ rle (ent pn F (96 * f + 6 * p) g (kV an nu (17 * f + p))) ((kC ct' an' nu').2 (17 * g)) := by
  obtain ⟨g1, g2, g3, g4⟩ := hW.1 g hg
  obtain ⟨l1, l2, l3, l4⟩ := hW.1 f hf
  have loop : ∀ (j r m : Nat) (ra rn : Nat → Int32), r + j = 6 → B01 6 ra → (∀ i, i < r → rV ra rn i = ent pn F (96 * f + 6 * p) g (kV an nu (17 * f + p)) i) → ∃ ra' rn' : Nat → Int32, B01 6 ra' ∧ (∀ i, i < 6 → rV ra' rn' i = ent pn F (96 * f + 6 * p) g (kV an nu (17 * f + p)) i) ∧ f_X0_goInto_14 N (nI f) (nI p) (nI g) pc ls F (m + 1 + j) (nI (17 * f + p)) (nI r) (nI w) ct an nu ra rn iw wt = (f_X0_arriveAt N (nI g) 0 (nI w) ls ct an nu ra' rn' iw wt).bind (fun o2 => some (o2.1, o2.2.1, o2.2.2.1, o2.2.2.2.1, ra', rn', o2.2.2.2.2.1, o2.2.2.2.2.2)) := by
    intro j
    induction j with
    | zero =>
      intro r m ra rn hr hB' h
      obtain rfl : r = 6 := by omega
      exact ⟨ra, rn, hB', h, by rw [show m + 1 + 0 = m + 1 from rfl, f_X0_goInto_14, if_pos (by decide)]⟩
    | succ j ih =>
      intro r m ra rn hr hB' h
      by_cases hpr : pn g ≤ r
      · obtain ⟨ra', rn', a, b, c⟩ := ih (r + 1) m (upd ra r 0) (upd rn r 0) (by omega) (B01_u hB' (Or.inl rfl)) (fun i hi => by
          rw [rV_N]
          by_cases e : i = r
          · subst e; rw [if_pos rfl]; unfold ent; rw [if_neg (by omega)]
          · rw [if_neg e]; exact h i (by omega))
        refine ⟨ra', rn', a, b, ?_⟩
        rw [show m + 1 + (j + 1) = m + 1 + j + 1 from rfl, f_X0_goInto_14, if_neg (show ¬ 6 ≤ nI r from nI_ge (b := 6) (by omega) (by omega)), q_bind (q_rd (by omega) (by omega)), g1, if_pos (nI_le hpr (by omega)), q_bind (q_putN (by omega) 0 ra rn), nI_1, c]
      · obtain ⟨ra1, rn1, a1, b1, c1⟩ := q_takeO (r := r) (q := 17 * f + p) (by omega) (by omega) (hop r (by omega)) an nu rn hB'
        obtain ⟨ra', rn', a, b, c⟩ := ih (r + 1) m ra1 rn1 (by omega) b1 (fun i hi => by
          rw [c1]
          by_cases e : i = r
          · subst e; rw [if_pos rfl]; unfold ent; rw [if_pos (by omega)]
          · rw [if_neg e]; exact h i (by omega))
        refine ⟨ra', rn', a, b, ?_⟩
        rw [show m + 1 + (j + 1) = m + 1 + j + 1 from rfl, f_X0_goInto_14, if_neg (show ¬ 6 ≤ nI r from nI_ge (b := 6) (by omega) (by omega)), q_bind (q_rd (by omega) (by omega)), g1, if_neg (nI_ge (by omega) (by omega)), show (3 : Int32) + nI r = nI (3 + r) from nI_add 3 r, q_bind (q_fieldOf (by omega) (by omega) (by omega)), show 96 * f + 6 * p + (3 + r) = 96 * f + 6 * p + 3 + r by omega, q_bind a1, nI_1, c]
  obtain ⟨ra', rn', a, b, c⟩ := loop 6 0 (N - 7) ra rn rfl hra (fun i hi => absurd hi (Nat.not_lt_zero i))
  rw [show N - 7 + 1 + 6 = N by omega] at c
  obtain ⟨w', ct', an', nu', iw', wt', d1, d2, d3, d4, d5, d6⟩ := q_arrive hW hn hN (x := 0) (t := 17 * g) hg (by omega) (by omega) hC a hB b hJ
  refine ⟨w', ct', an', nu', ra', rn', iw', wt', ?_, a, d2, d3, d4, d5, d6⟩
  unfold f_X0_goInto
  rw [q_bind (q_place hW hn hf hp)]
  refine c.trans ?_
  rw [q_bind (show f_X0_arriveAt N (nI g) 0 (nI w) ls ct an nu ra' rn' iw wt = _ from d1)]
/-- the calls of a statement, all of them -/
theorem q_calls {n : Nat} {ln pn : Nat → Nat} {F : Nat → Int32} {e : Nat} {en pc ls : Nat → Int32} (hW : WP n pn ln pc ls F e en) (hn : n ≤ 12) (he : e ≤ 4) {N : Nat} (hN : 20000 ≤ N) {f p op d w pops : Nat} (hf : f < n) (hp : p < ln f) (hop : op = 10 ∨ op = 11) (hd : d < 6) (e0 : F (96 * f + 6 * p) = nI op) (e1 : F (96 * f + 6 * p + 1) = nI d) (hu : ∀ j, j < usesN op → isOpd (F (96 * f + 6 * p + 3 + j))) (h10 : op = 10 → ∃ g : Nat, g < n ∧ F (96 * f + 6 * p + 2) = nI g) (h11 : op = 11 → isOpd (F (96 * f + 6 * p + 2)))
    {ct an nu ra rn iw wt : Nat → Int32} (hC : CI n pops ct an nu iw wt w) (hra : B01 6 ra) (hB : Bel n ln pn F e en (kC ct an nu)) (hc : (kC ct an nu).1 (17 * f + p) = true) :
    ∃ (w' : Nat) (ct' an' nu' ra' rn' iw' wt' : Nat → Int32), f_X0_goIntoCalls N (nI f) (nI p) (nI op) (nI w) (nI e) pc ls F en ct an nu ra rn iw wt = some (nI w', ct', an', nu', ra', rn', iw', wt') ∧ B01 6 ra' ∧ CI n pops ct' an' nu' iw' wt' w' ∧ Bel n ln pn F e en (kC ct' an' nu') ∧ Grow n (kC ct an nu) iw (kC ct' an' nu') iw' ∧ (iw' (17 * f + p) ≠ 0 ∨ ∀ t row, ArrC n pn F e en op (96 * f + 6 * p) ((kC ct' an' nu').2 (17 * f + p)) t row → (kC ct' an' nu').1 t = true ∧ rle row ((kC ct' an' nu').2 t)) := by
  obtain ⟨l1, l2, l3, l4⟩ := hW.1 f hf
  have hpn : ∀ g, g < n → pn g ≤ 3 := fun g hg => (hW.1 g hg).2.1
  have hws := hW.2.2.1 f hf p hp
  have hu3 : usesN op = 3 := by rcases hop with rfl | rfl <;> rfl
  have hu' : ∀ j, j < 3 → isOpd (F (96 * f + 6 * p + 3 + j)) := fun j hj => hu j (by omega)
  have hX : f_X4_fieldOf (nI f) (nI p) 2 F = some (F (96 * f + 6 * p + 2)) := q_fieldOf (w := 2) (by omega) (by omega) (by omega)
  unfold f_X0_goIntoCalls
  rw [q_bind hX]
  rcases hop with rfl | rfl
  · obtain ⟨g, hg, eg⟩ := h10 rfl
    have hA : Arr n ln pn F e en f p (kV an nu (17 * f + p)) (17 * g) (ent pn F (96 * f + 6 * p) g (kV an nu (17 * f + p))) := ⟨10, d, by omega, hd, e0, e1, Or.inl (Or.inl ⟨rfl, g, hg, eg, rfl, rfl⟩)⟩
    obtain ⟨w', ct', an', nu', ra', rn', iw', wt', a1, a2, a3, a4, a5, a6, a7⟩ := q_into (rn := rn) hW hn hN hf hp hg hu' hC hra hB (Jus_arr hB hf hp l4 hws hpn hc hA)
    rw [if_pos (by decide), eg, q_bind a1]
    refine ⟨w', ct', an', nu', ra', rn', iw', wt', rfl, a2, a3, a4, a5, ?_⟩
    rcases a5.2.2 (17 * f + p) (by omega) with b | ⟨_, b⟩
    · exact Or.inl b
    · right
      intro t row ha
      rcases ha with ⟨_, g', b1, b2, b3, b4⟩ | ⟨x, _⟩
      · obtain rfl : g' = g := (nI_eq (by omega) (by omega)).mp (b2.symm.trans eg)
        subst b3 b4
        exact ⟨a6, rle_t (ent_m hpn hg hu (Or.inl rfl) (rle_e b)) a7⟩
      · exact absurd x (by decide)
  · have hXo := h11 rfl
    rw [if_neg (by decide), q_bind (q_place hW hn hf hp)]
    rcases q_has (q := 17 * f + p) (by omega) hXo an nu with ⟨a, b, _⟩ | ⟨y, a, b, c, _⟩
    · rw [q_bind b, if_pos rfl]
      have loop : ∀ (j k m w : Nat) (ct an nu ra rn iw wt : Nat → Int32), k + j = e → CI n pops ct an nu iw wt w → B01 6 ra → Bel n ln pn F e en (kC ct an nu) → (kC ct an nu).1 (17 * f + p) = true → opv (kV an nu (17 * f + p)) (F (96 * f + 6 * p + 2)) = none →
          ∃ (w' : Nat) (ct' an' nu' ra' rn' iw' wt' : Nat → Int32), f_X0_goIntoCalls_55 N (nI f) (nI p) (nI 11) (nI e) pc ls F en (m + 1 + j) (nI k) (nI w) ct an nu ra rn iw wt = some (nI w', ct', an', nu', ra', rn', iw', wt') ∧ B01 6 ra' ∧ CI n pops ct' an' nu' iw' wt' w' ∧ Bel n ln pn F e en (kC ct' an' nu') ∧ Grow n (kC ct an nu) iw (kC ct' an' nu') iw' ∧ (iw' (17 * f + p) ≠ 0 ∨ ∀ i g, k ≤ i → i < e → g < n → en i = nI g → (kC ct' an' nu').1 (17 * g) = true ∧ rle (ent pn F (96 * f + 6 * p) g (kV an' nu' (17 * f + p))) ((kC ct' an' nu').2 (17 * g))) := by
        intro j
        induction j with
        | zero =>
          intro k m w ct an nu ra rn iw wt hk hC hra hB hc ho
          obtain rfl : k = e := by omega
          exact ⟨w, ct, an, nu, ra, rn, iw, wt, by rw [show m + 1 + 0 = m + 1 from rfl, f_X0_goIntoCalls_55, if_pos (nI_le (by omega) (by omega))], hra, hC, hB, Grow_r _ _ _, Or.inr (fun i g h1 h2 => by omega)⟩
        | succ j ih =>
          intro k m w ct an nu ra rn iw wt hk hC hra hB hc ho
          obtain ⟨g, hg, eg⟩ := hW.2.2.2 k (by omega)
          have hA : Arr n ln pn F e en f p (kV an nu (17 * f + p)) (17 * g) (ent pn F (96 * f + 6 * p) g (kV an nu (17 * f + p))) := ⟨11, d, by omega, hd, e0, e1, Or.inl (Or.inr ⟨rfl, k, g, by omega, hg, eg, fun y hy => (by rw [ho] at hy; cases hy), rfl, rfl⟩)⟩
          obtain ⟨w1, ct1, an1, nu1, ra1, rn1, iw1, wt1, a1, a2, a3, a4, a5, a6, a7⟩ := q_into (rn := rn) hW hn hN hf hp hg hu' hC hra hB (Jus_arr hB hf hp l4 hws hpn hc hA)
          obtain ⟨k1, k2⟩ := a5.1 (17 * f + p) (by omega) hc
          obtain ⟨w', ct', an', nu', ra', rn', iw', wt', b1, b2, b3, b4, b5, b6⟩ := ih (k + 1) m w1 ct1 an1 nu1 ra1 rn1 iw1 wt1 (by omega) a3 a2 a4 k1 (vle_n (opv_m k2 hXo) ho)
          refine ⟨w', ct', an', nu', ra', rn', iw', wt', ?_, b2, b3, b4, Grow_t a5 b5, ?_⟩
          · rw [show m + 1 + (j + 1) = m + 1 + j + 1 from rfl, f_X0_goIntoCalls_55, if_neg (nI_ge (by omega) (by omega)), q_bind (q_rd (by omega) (by omega)), eg, q_bind a1, nI_1, b1]
          · rcases b6 with b6 | b6
            · exact Or.inl b6
            · rcases (Grow_t a5 b5).2.2 (17 * f + p) (by omega) with c | ⟨_, c⟩
              · exact Or.inl c
              · right
                intro i g' h1 h2 h3 h4
                by_cases ei : i = k
                · subst ei
                  obtain rfl : g' = g := (nI_eq (by omega) (by omega)).mp (h4.symm.trans eg)
                  obtain ⟨d1, d2⟩ := b5.1 (17 * g') (by omega) a6
                  exact ⟨d1, rle_t (ent_m hpn hg hu (Or.inr rfl) (rle_e c)) (rle_t a7 d2)⟩
                · exact b6 i g' (by omega) h2 h3 h4
      obtain ⟨w', ct', an', nu', ra', rn', iw', wt', b1, b2, b3, b4, b5, b6⟩ := loop e 0 (N - e - 1) w ct an nu ra rn iw wt (by omega) hC hra hB hc a
      rw [show N - e - 1 + 1 + e = N by omega] at b1
      refine ⟨w', ct', an', nu', ra', rn', iw', wt', b1, b2, b3, b4, b5, ?_⟩
      rcases b6 with b6 | b6
      · exact Or.inl b6
      · right
        intro t row ha
        rcases ha with ⟨x, _⟩ | ⟨_, i, g, h1, h2, h3, h4, h5, h6⟩
        · exact absurd x (by decide)
        · subst h5 h6
          exact b6 i g (by omega) h1 h2 h3
    · rw [q_bind b, if_neg (by decide)]
      by_cases he0 : e = 0
      · rw [if_pos (show nI e ≤ 0 by rw [he0]; decide)]
        refine ⟨w, ct, an, nu, ra, rn, iw, wt, rfl, hra, hC, hB, Grow_r _ _ _, Or.inr ?_⟩
        intro t row ha
        rcases ha with ⟨x, _⟩ | ⟨_, i, g, h1, _⟩
        · exact absurd x (by decide)
        · omega
      · obtain ⟨j, hj, j1, j2⟩ := q_entryE (by omega) he y
        obtain ⟨g, hg, eg⟩ := hW.2.2.2 j hj
        have hA : Arr n ln pn F e en f p (kV an nu (17 * f + p)) (17 * g) (ent pn F (96 * f + 6 * p) g (kV an nu (17 * f + p))) := ⟨11, d, by omega, hd, e0, e1, Or.inl (Or.inr ⟨rfl, j, g, hj, hg, eg, fun y' hy => (by rw [a] at hy; cases hy; exact j1), rfl, rfl⟩)⟩
        obtain ⟨w', ct', an', nu', ra', rn', iw', wt', a1, a2, a3, a4, a5, a6, a7⟩ := q_into (rn := rn) hW hn hN hf hp hg hu' hC hra hB (Jus_arr hB hf hp l4 hws hpn hc hA)
        rw [if_neg (nI_nle (by omega) (by omega)), q_bind c, q_bind (j1 en), eg, q_bind a1]
        refine ⟨w', ct', an', nu', ra', rn', iw', wt', rfl, a2, a3, a4, a5, ?_⟩
        rcases a5.2.2 (17 * f + p) (by omega) with b' | ⟨_, b'⟩
        · exact Or.inl b'
        · right
          intro t row ha
          rcases ha with ⟨x, _⟩ | ⟨_, i, g', h1, h2, h3, h4, h5, h6⟩
          · exact absurd x (by decide)
          · have hy : opv ((kC ct' an' nu').2 (17 * f + p)) (F (96 * f + 6 * p + 2)) = some y := by
              have h := opv_m (rle_e b') hXo
              have k := opv_m (rle_e (fun r hr => (b' r hr).symm)) hXo
              exact (vle_a h k).trans a
            obtain rfl : i = j := isE_u (by omega) (by omega) (h4 y hy) j1
            obtain rfl : g' = g := (nI_eq (by omega) (by omega)).mp (h3.symm.trans eg)
            subst h5 h6
            exact ⟨a6, rle_t (ent_m hpn hg hu (Or.inr rfl) (rle_e b')) a7⟩
