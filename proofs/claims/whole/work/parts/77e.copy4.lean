/-! PURE 19: which calls say the same as the special one; the marks -/
theorem WS.tr {n n' : Nat} {F F' : Nat → Int32} {k k' : Nat} (h : WS n F k) (hn : n ≤ n') (he : ∀ w, w < 6 → F' (k' + w) = F (k + w)) : WS n' F' k' := by
  obtain ⟨op, d, h1, h2, h3, h4, h5, h6, h7, h8⟩ := h
  have e0 := he 0 (by omega)
  have e1 := he 1 (by omega)
  have e2 := he 2 (by omega)
  have hu : usesN op ≤ 3 := by
    have : ∀ op, op ≤ 12 → usesN op ≤ 3 := by decide
    exact this op h1
  refine ⟨op, d, h1, h2, by rw [show F' k' = F k from e0]; exact h3, by rw [e1]; exact h4, fun j hj => ?_, fun q => by rw [e2]; exact h6 q, fun q => by rw [e2]; obtain ⟨g, hg, e⟩ := h7 q; exact ⟨g, by omega, e⟩, fun q => by rw [e2]; exact h8 q⟩
  rw [show k' + 3 + j = k' + (3 + j) by omega, he (3 + j) (by omega), show k + (3 + j) = k + 3 + j by omega]
  exact h5 j hj
theorem q_3w {H F : Nat → Int32} {k : Nat} (h : ∀ w, w < 6 → H (k + w) = F (k + w)) {r : Nat} (hr : r < 3) : H (k + 3 + r) = F (k + 3 + r) := by
  rw [Nat.add_assoc k 3 r]; exact h (3 + r) (by omega)
def smE (F an nu : Nat → Int32) (f i a b r : Nat) : Prop := opv (kV an nu (17 * f + i)) (F (96 * f + 6 * i + 3 + r)) = opv (kV an nu (17 * a + b)) (F (96 * a + 6 * b + 3 + r))
def sm (pn : Nat → Nat) (F ct an nu : Nat → Int32) (f i g a b : Nat) : Prop := ct (17 * a + b) ≠ 0 ∧ F (96 * a + 6 * b) = nI 10 ∧ F (96 * a + 6 * b + 2) = nI g ∧ ∀ r, r < pn g → smE F an nu f i a b r
theorem q_sayC {pn ln : Nat → Nat} {F G pc ls an nu : Nat → Int32} {N : Nat} (hN : 20000 ≤ N) {f i g a b : Nat} (hf : f < 12) (ha : a < 12) (hi : i < ln f) (hb : b < ln a) (lf : ls f = nI (ln f)) (lf' : ln f ≤ 16) (la : ls a = nI (ln a)) (la' : ln a ≤ 16) (hg : g < 12) (hpc : pc g = nI (pn g)) (hp3 : pn g ≤ 3) (hG1 : ∀ j, j < 3 → G (96 * f + 6 * i + 3 + j) = F (96 * f + 6 * i + 3 + j)) (hG2 : ∀ j, j < 3 → G (96 * a + 6 * b + 3 + j) = F (96 * a + 6 * b + 3 + j)) (e2 : G (96 * a + 6 * b + 2) = nI g) (hu1 : ∀ j, j < 3 → isOpd (F (96 * f + 6 * i + 3 + j))) (hu2 : ∀ j, j < 3 → isOpd (F (96 * a + 6 * b + 3 + j))) :
    (f_X3_sayTheSame N (nI f) (nI i) (nI a) (nI b) pc ls G an nu = some 1 ∧ ∀ r, r < pn g → smE F an nu f i a b r) ∨ (f_X3_sayTheSame N (nI f) (nI i) (nI a) (nI b) pc ls G an nu = some 0 ∧ ¬ ∀ r, r < pn g → smE F an nu f i a b r) := by
  have loop : ∀ (j r m : Nat), r + j = pn g → (f_X3_sayTheSame_39 N (nI f) (nI i) (nI a) (nI b) pc ls G an nu (m + 1 + j) (nI g) (nI (17 * f + i)) (nI (17 * a + b)) (nI r) = some 1 ∧ ∀ r', r ≤ r' → r' < pn g → smE F an nu f i a b r') ∨ (f_X3_sayTheSame_39 N (nI f) (nI i) (nI a) (nI b) pc ls G an nu (m + 1 + j) (nI g) (nI (17 * f + i)) (nI (17 * a + b)) (nI r) = some 0 ∧ ∃ r', r ≤ r' ∧ r' < pn g ∧ ¬ smE F an nu f i a b r') := by
    intro j
    induction j with
    | zero =>
      intro r m hr
      exact Or.inl ⟨by rw [show m + 1 + 0 = m + 1 from rfl, f_X3_sayTheSame_39, q_bind (q_rd (by omega) (by omega)), hpc, if_pos (nI_le (by omega) (by omega))], fun r' h1 h2 => by omega⟩
    | succ j ih =>
      intro r m hr
      refine Classical.byContradiction (fun hgoal => ?_)
      have pre : f_X3_sayTheSame_39 N (nI f) (nI i) (nI a) (nI b) pc ls G an nu (m + 1 + (j + 1)) (nI g) (nI (17 * f + i)) (nI (17 * a + b)) (nI r) = (f_X1_hasNumber (nI (17 * f + i)) (F (96 * f + 6 * i + 3 + r)) an).bind (fun o5 => (f_X1_hasNumber (nI (17 * a + b)) (F (96 * a + 6 * b + 3 + r)) an).bind (fun o6 => if o5 = o6 then if o5 = 0 then f_X3_sayTheSame_39 N (nI f) (nI i) (nI a) (nI b) pc ls G an nu (m + 1 + j) (nI g) (nI (17 * f + i)) (nI (17 * a + b)) (nI (r + 1)) else (f_X1_numberOf (nI (17 * f + i)) (F (96 * f + 6 * i + 3 + r)) nu).bind (fun o9 => (f_X1_numberOf (nI (17 * a + b)) (F (96 * a + 6 * b + 3 + r)) nu).bind (fun o10 => if o9 = o10 then f_X3_sayTheSame_39 N (nI f) (nI i) (nI a) (nI b) pc ls G an nu (m + 1 + j) (nI g) (nI (17 * f + i)) (nI (17 * a + b)) (nI (r + 1)) else some 0)) else some 0)) := by
        rw [show m + 1 + (j + 1) = m + 1 + j + 1 from rfl, f_X3_sayTheSame_39, q_bind (q_rd (by omega) (by omega)), hpc, if_neg (nI_ge (by omega) (by omega)), show (3 : Int32) + nI r = nI (3 + r) from nI_add 3 r, q_bind (q_fieldOf (f := f) (by omega) (by omega) (by omega)), q_bind (q_fieldOf (f := a) (by omega) (by omega) (by omega)), show 96 * f + 6 * i + (3 + r) = 96 * f + 6 * i + 3 + r by omega, show 96 * a + 6 * b + (3 + r) = 96 * a + 6 * b + 3 + r by omega, hG1 r (by omega), hG2 r (by omega), nI_1]
      have next : smE F an nu f i a b r → f_X3_sayTheSame_39 N (nI f) (nI i) (nI a) (nI b) pc ls G an nu (m + 1 + (j + 1)) (nI g) (nI (17 * f + i)) (nI (17 * a + b)) (nI r) = f_X3_sayTheSame_39 N (nI f) (nI i) (nI a) (nI b) pc ls G an nu (m + 1 + j) (nI g) (nI (17 * f + i)) (nI (17 * a + b)) (nI (r + 1)) → False := fun hE he => hgoal (by
        rw [he]
        rcases ih (r + 1) m (by omega) with ⟨x1, x2⟩ | ⟨x1, r', x2, x3, x4⟩
        · refine Or.inl ⟨x1, fun r' h1 h2 => ?_⟩
          by_cases er : r' = r
          · subst er; exact hE
          · exact x2 r' (by omega) h2
        · exact Or.inr ⟨x1, r', by omega, x3, x4⟩)
      have stop : ¬ smE F an nu f i a b r → f_X3_sayTheSame_39 N (nI f) (nI i) (nI a) (nI b) pc ls G an nu (m + 1 + (j + 1)) (nI g) (nI (17 * f + i)) (nI (17 * a + b)) (nI r) = some 0 → False := fun hE he => hgoal (Or.inr ⟨he, r, by omega, by omega, hE⟩)
      rcases q_has (q := 17 * f + i) (by omega) (hu1 r (by omega)) an nu with ⟨x, x1, _⟩ | ⟨y, x, x1, x2, _⟩
      · rcases q_has (q := 17 * a + b) (by omega) (hu2 r (by omega)) an nu with ⟨z, z1, _⟩ | ⟨y', z, z1, z2, _⟩
        · exact next (x.trans z.symm) (by rw [pre, q_bind x1, q_bind z1, if_pos rfl, if_pos rfl])
        · exact stop (fun hE => by unfold smE at hE; rw [x, z] at hE; cases hE) (by rw [pre, q_bind x1, q_bind z1, if_neg (show ¬ (0 : Int32) = 1 by decide)])
      · rcases q_has (q := 17 * a + b) (by omega) (hu2 r (by omega)) an nu with ⟨z, z1, _⟩ | ⟨y', z, z1, z2, _⟩
        · exact stop (fun hE => by unfold smE at hE; rw [x, z] at hE; cases hE) (by rw [pre, q_bind x1, q_bind z1, if_neg (show ¬ (1 : Int32) = 0 by decide)])
        · by_cases ey : y = y'
          · subst ey
            exact next (x.trans z.symm) (by rw [pre, q_bind x1, q_bind z1, if_pos rfl, if_neg (show ¬ (1 : Int32) = 0 by decide), q_bind x2, q_bind z2, if_pos rfl])
          · exact stop (fun hE => by unfold smE at hE; rw [x, z] at hE; exact ey (Option.some.inj hE)) (by rw [pre, q_bind x1, q_bind z1, if_pos rfl, if_neg (show ¬ (1 : Int32) = 0 by decide), q_bind x2, q_bind z2, if_neg ey])
  have h := loop (pn g) 0 (N - pn g - 1) (by omega)
  rw [show N - pn g - 1 + 1 + pn g = N by omega] at h
  have pf : f_X4_placeOf (nI f) (nI i) ls = some (nI (17 * f + i)) := by
    have := q_placeOf (p := i) hf (by omega) lf lf'
    rw [show min i (ln f) = i by omega] at this; exact this
  have pa : f_X4_placeOf (nI a) (nI b) ls = some (nI (17 * a + b)) := by
    have := q_placeOf (p := b) ha (by omega) la la'
    rw [show min b (ln a) = b by omega] at this; exact this
  have hs : f_X3_sayTheSame N (nI f) (nI i) (nI a) (nI b) pc ls G an nu = f_X3_sayTheSame_39 N (nI f) (nI i) (nI a) (nI b) pc ls G an nu N (nI g) (nI (17 * f + i)) (nI (17 * a + b)) (nI 0) := by
    unfold f_X3_sayTheSame
    rw [q_bind (show f_X4_fieldOf (nI a) (nI b) 2 G = _ from q_fieldOf (w := 2) (by omega) (by omega) (by omega)), e2, q_bind pf, q_bind pa]
    rfl
  rw [hs]
  rcases h with ⟨h1, h2⟩ | ⟨h1, r', _, h3, h4⟩
  · exact Or.inl ⟨h1, fun r hr => h2 r (by omega) hr⟩
  · exact Or.inr ⟨h1, fun h => h4 (h r' h3)⟩
theorem q_place8 {f i : Nat} (hf : f < 12) (hi : i < 16) : f_X8_placeOf (nI (16 * f + i)) = some (nI (17 * f + i)) := by
  unfold f_X8_placeOf
  rw [q_bind (q_dv16 (by omega)), q_bind (q_rm16 (by omega)), q_17, show (16 * f + i) / 16 = f by omega, show (16 * f + i) % 16 = i by omega]
theorem q_6k {f i : Nat} : (6 : Int32) * nI (16 * f + i) = nI (96 * f + 6 * i) := by rw [q_m6, show 6 * (16 * f + i) = 96 * f + 6 * i by omega]
theorem q_agreeR {n : Nat} {pn ln : Nat → Nat} {F ct an nu ct' an' nu' par len now : Nat → Int32} {N : Nat} (hN : 20000 ≤ N) (hn : n ≤ 12) (hK : KE n ct an nu ct' an' nu') {f i g a b : Nat} (hf : f < n) (hi : i < 16) (ha : a < n) (hb : b < 16) (hg : g < n) (hg0 : 0 < g) (hpar : par g = nI (pn g)) (hp3 : pn g ≤ 3) (la : len a = nI (ln a)) (la' : ln a ≤ 16) (hG1 : ∀ w, w < 6 → now (96 * f + 6 * i + w) = F (96 * f + 6 * i + w)) (hG2 : b < ln a → ∀ w, w < 6 → now (96 * a + 6 * b + w) = F (96 * a + 6 * b + w)) (e2 : F (96 * f + 6 * i + 2) = nI g) (hu1 : ∀ j, j < 3 → isOpd (F (96 * f + 6 * i + 3 + j))) (hW : b < ln a → WS n F (96 * a + 6 * b)) (hc1 : ct (17 * f + i) ≠ 0) :
    (f_X8_agree N (nI (16 * f + i)) (nI (16 * a + b)) par len now ct' an' nu' = some 0 ∧ ¬ (b < ln a ∧ sm pn F ct an nu f i g a b)) ∨ (f_X8_agree N (nI (16 * f + i)) (nI (16 * a + b)) par len now ct' an' nu' = some 1 ∧ b < ln a ∧ sm pn F ct an nu f i g a b) := by
  refine Classical.byContradiction (fun hgoal => ?_)
  have no : ¬ (b < ln a ∧ sm pn F ct an nu f i g a b) → f_X8_agree N (nI (16 * f + i)) (nI (16 * a + b)) par len now ct' an' nu' = some 0 → False := fun h1 h2 => hgoal (Or.inl ⟨h2, h1⟩)
  have isc : f_X8_isCall (nI (16 * a + b)) len now ct' = if nI (ln a) ≤ nI b then some 0 else if ct' (17 * a + b) = 0 then some 0 else if now (96 * a + 6 * b) = 10 then if now (96 * a + 6 * b + 2) ≤ 0 then some 0 else some 1 else some 0 := by
    unfold f_X8_isCall
    rw [q_bind (q_dv16 (by omega)), q_bind (q_rm16 (by omega)), show (16 * a + b) / 16 = a by omega, show (16 * a + b) % 16 = b by omega, q_bind (q_rd (n := 12) (f := len) (by omega) (by omega)), la, q_17, q_6k, q_bind (q_rd (n := 204) (f := ct') (by omega) (by omega)), q_bind (q_rd (n := 1152) (f := now) (by omega) (by omega)), show nI (96 * a + 6 * b) + 2 = nI (96 * a + 6 * b + 2) from nI_add _ 2, q_bind (q_rd (n := 1152) (f := now) (by omega) (by omega))]
  have zero : f_X8_isCall (nI (16 * a + b)) len now ct' = some 0 → f_X8_agree N (nI (16 * f + i)) (nI (16 * a + b)) par len now ct' an' nu' = some 0 := fun h => by
    unfold f_X8_agree; rw [q_bind h, if_pos rfl]
  by_cases hbl : b < ln a
  · have hG := hG2 hbl
    obtain ⟨op, d, w1, w2, w3, w4, hu, w6, w7, w8⟩ := hW hbl
    have hK1 := hK (17 * a + b) (by omega)
    rw [if_neg (nI_ge hbl (by omega)), ← hK1.1, show now (96 * a + 6 * b) = F (96 * a + 6 * b) from hG 0 (by omega), hG 2 (by omega)] at isc
    by_cases hc : ct (17 * a + b) = 0
    · exact no (fun h => h.2.1 hc) (zero (by rw [isc, if_pos hc]))
    · rw [if_neg hc] at isc
      by_cases ho : op = 10
      · subst ho
        obtain ⟨x, hx, ex⟩ := w7 rfl
        rw [w3, if_pos (show nI 10 = 10 from rfl), ex] at isc
        by_cases hx0 : x = 0
        · subst hx0
          exact no (fun h => by
            have := ex.symm.trans h.2.2.2.1
            have := (nI_eq (by omega) (by omega)).mp this
            omega) (zero (by rw [isc, if_pos (by decide)]))
        · rw [if_neg (nI_nle (by omega) (by omega))] at isc
          have ag : f_X8_agree N (nI (16 * f + i)) (nI (16 * a + b)) par len now ct' an' nu' = if nI x = nI g then f_X8_agree_40 N (nI (16 * f + i)) (nI (16 * a + b)) par len now ct' an' nu' N 1 (nI 0) else some 0 := by
            unfold f_X8_agree
            rw [q_bind isc, if_neg (show ¬ (1 : Int32) = 0 by decide), q_6k, q_6k, show nI (96 * a + 6 * b) + 2 = nI (96 * a + 6 * b + 2) from nI_add _ 2, show nI (96 * f + 6 * i) + 2 = nI (96 * f + 6 * i + 2) from nI_add _ 2, q_bind (q_rd (n := 1152) (f := now) (k := 96 * a + 6 * b + 2) (by omega) (by omega)), q_bind (q_rd (n := 1152) (f := now) (k := 96 * f + 6 * i + 2) (by omega) (by omega)), hG 2 (by omega), hG1 2 (by omega), ex, e2]
            rfl
          by_cases hxg : x = g
          · subst hxg
            rw [if_pos rfl] at ag
            have rowf := (hK (17 * f + i) (by omega)).2 hc1
            have rowa := hK1.2 hc
            have loop : ∀ (j r m : Nat) (z : Int32), r + j = pn x → (z = 0 ∨ z = 1) → (f_X8_agree_40 N (nI (16 * f + i)) (nI (16 * a + b)) par len now ct' an' nu' (m + 1 + j) z (nI r) = some 1 ∧ z = 1 ∧ ∀ r', r ≤ r' → r' < pn x → smE F an nu f i a b r') ∨ (f_X8_agree_40 N (nI (16 * f + i)) (nI (16 * a + b)) par len now ct' an' nu' (m + 1 + j) z (nI r) = some 0 ∧ (z = 0 ∨ ∃ r', r ≤ r' ∧ r' < pn x ∧ ¬ smE F an nu f i a b r')) := by
              intro j
              induction j with
              | zero =>
                intro r m z hr hz
                have : f_X8_agree_40 N (nI (16 * f + i)) (nI (16 * a + b)) par len now ct' an' nu' (m + 1 + 0) z (nI r) = some z := by
                  rw [show m + 1 + 0 = m + 1 from rfl, f_X8_agree_40, q_6k, show nI (96 * f + 6 * i) + 2 = nI (96 * f + 6 * i + 2) from nI_add _ 2, q_bind (q_rd (by omega) (by omega)), hG1 2 (by omega), e2, q_bind (q_rd (n := 12) (f := par) (by omega) (by omega)), hpar, if_pos (nI_le (by omega) (by omega)), q_bind (q_zr hz)]
                rw [this]
                rcases hz with rfl | rfl
                · exact Or.inr ⟨rfl, Or.inl rfl⟩
                · exact Or.inl ⟨rfl, rfl, fun r' h1 h2 => by omega⟩
              | succ j ih =>
                intro r m z hr hz
                refine Classical.byContradiction (fun hgoal => ?_)
                have pre : f_X8_agree_40 N (nI (16 * f + i)) (nI (16 * a + b)) par len now ct' an' nu' (m + 1 + (j + 1)) z (nI r) = (f_X8_has (nI (17 * f + i)) (F (96 * f + 6 * i + 3 + r)) an').bind (fun o8 => if z = 0 then f_X8_agree_40 N (nI (16 * f + i)) (nI (16 * a + b)) par len now ct' an' nu' (m + 1 + j) 0 (nI (r + 1)) else (f_X8_has (nI (17 * a + b)) (F (96 * a + 6 * b + 3 + r)) an').bind (fun o11 => if o8 = o11 then if o8 = 0 then f_X8_agree_40 N (nI (16 * f + i)) (nI (16 * a + b)) par len now ct' an' nu' (m + 1 + j) 1 (nI (r + 1)) else (f_X8_valueAt (nI (17 * f + i)) (F (96 * f + 6 * i + 3 + r)) nu').bind (fun o15 => (f_X8_valueAt (nI (17 * a + b)) (F (96 * a + 6 * b + 3 + r)) nu').bind (fun o17 => if o15 = o17 then f_X8_agree_40 N (nI (16 * f + i)) (nI (16 * a + b)) par len now ct' an' nu' (m + 1 + j) 1 (nI (r + 1)) else f_X8_agree_40 N (nI (16 * f + i)) (nI (16 * a + b)) par len now ct' an' nu' (m + 1 + j) 0 (nI (r + 1)))) else f_X8_agree_40 N (nI (16 * f + i)) (nI (16 * a + b)) par len now ct' an' nu' (m + 1 + j) 0 (nI (r + 1)))) := by
                  rw [show m + 1 + (j + 1) = m + 1 + j + 1 from rfl, f_X8_agree_40, q_6k, q_6k, show nI (96 * f + 6 * i) + 2 = nI (96 * f + 6 * i + 2) from nI_add _ 2, q_bind (q_rd (k := 96 * f + 6 * i + 2) (by omega) (by omega)), hG1 2 (by omega), e2, q_bind (q_rd (n := 12) (f := par) (by omega) (by omega)), hpar, if_neg (nI_ge (by omega) (by omega)), show nI (96 * f + 6 * i) + 3 + nI r = nI (96 * f + 6 * i + 3 + r) from by rw [show nI (96 * f + 6 * i) + 3 = nI (96 * f + 6 * i + 3) from nI_add _ 3, nI_add], show nI (96 * a + 6 * b) + 3 + nI r = nI (96 * a + 6 * b + 3 + r) from by rw [show nI (96 * a + 6 * b) + 3 = nI (96 * a + 6 * b + 3) from nI_add _ 3, nI_add], q_bind (q_rd (n := 1152) (f := now) (k := 96 * f + 6 * i + 3 + r) (by omega) (by omega)), q_bind (q_rd (n := 1152) (f := now) (k := 96 * a + 6 * b + 3 + r) (by omega) (by omega)), show now (96 * f + 6 * i + 3 + r) = F (96 * f + 6 * i + 3 + r) from q_3w hG1 (by omega), show now (96 * a + 6 * b + 3 + r) = F (96 * a + 6 * b + 3 + r) from q_3w hG (by omega), q_place8 (by omega) hi, q_place8 (by omega) hb, nI_1]
                  rfl
                have next : ∀ z' : Int32, (z' = 0 ∨ z' = 1) → (z' = 1 → z = 1 ∧ smE F an nu f i a b r) → (z' = 0 → z = 0 ∨ ¬ smE F an nu f i a b r) → f_X8_agree_40 N (nI (16 * f + i)) (nI (16 * a + b)) par len now ct' an' nu' (m + 1 + (j + 1)) z (nI r) = f_X8_agree_40 N (nI (16 * f + i)) (nI (16 * a + b)) par len now ct' an' nu' (m + 1 + j) z' (nI (r + 1)) → False := fun z' hz' h1 h0 he => hgoal (by
                  rw [he]
                  rcases ih (r + 1) m z' (by omega) hz' with ⟨x1, x2, x3⟩ | ⟨x1, x2⟩
                  · obtain ⟨y1, y2⟩ := h1 x2
                    refine Or.inl ⟨x1, y1, fun r' c1 c2 => ?_⟩
                    by_cases er : r' = r
                    · subst er; exact y2
                    · exact x3 r' (by omega) c2
                  · refine Or.inr ⟨x1, ?_⟩
                    rcases x2 with x2 | ⟨r', x2, x3, x4⟩
                    · rcases h0 x2 with q | q
                      · exact Or.inl q
                      · exact Or.inr ⟨r, by omega, by omega, q⟩
                    · exact Or.inr ⟨r', by omega, x3, x4⟩)
                have n0 : z = 0 → ∀ o8 : Int32, f_X8_has (nI (17 * f + i)) (F (96 * f + 6 * i + 3 + r)) an' = some o8 → False := fun hz0 o8 ho8 => next 0 (Or.inl rfl) (fun q => absurd q (by decide)) (fun _ => Or.inl hz0) (by rw [pre, q_bind ho8, if_pos hz0])
                have t1 : ∀ z' : Int32, z' = 1 → ¬ z' = 0 := fun z' h => by rw [h]; decide
                rcases q_has2 (q := 17 * f + i) (by omega) (hu1 r (by omega)) rowf with ⟨p, _, p2⟩ | ⟨y, p, _, _, p2, p3⟩
                · rcases hz with hz | hz
                  · exact n0 hz _ p2
                  · rcases q_has2 (q := 17 * a + b) (by omega) (hu r (by show r < 3; omega)) rowa with ⟨q, _, q2⟩ | ⟨y', q, _, _, q2, q3⟩
                    · exact next 1 (Or.inr rfl) (fun _ => ⟨hz, p.trans q.symm⟩) (fun q => absurd q (by decide)) (by rw [pre, q_bind p2, if_neg (t1 z hz), q_bind q2, if_pos rfl, if_pos rfl])
                    · exact next 0 (Or.inl rfl) (fun q => absurd q (by decide)) (fun _ => Or.inr (fun hE => by unfold smE at hE; rw [p, q] at hE; cases hE)) (by rw [pre, q_bind p2, if_neg (t1 z hz), q_bind q2, if_neg (show ¬ (0 : Int32) = 1 by decide)])
                · rcases hz with hz | hz
                  · exact n0 hz _ p2
                  · rcases q_has2 (q := 17 * a + b) (by omega) (hu r (by show r < 3; omega)) rowa with ⟨q, _, q2⟩ | ⟨y', q, _, _, q2, q3⟩
                    · exact next 0 (Or.inl rfl) (fun q => absurd q (by decide)) (fun _ => Or.inr (fun hE => by unfold smE at hE; rw [p, q] at hE; cases hE)) (by rw [pre, q_bind p2, if_neg (t1 z hz), q_bind q2, if_neg (show ¬ (1 : Int32) = 0 by decide)])
                    · by_cases ey : y = y'
                      · subst ey
                        exact next 1 (Or.inr rfl) (fun _ => ⟨hz, p.trans q.symm⟩) (fun q => absurd q (by decide)) (by rw [pre, q_bind p2, if_neg (t1 z hz), q_bind q2, if_pos rfl, if_neg (show ¬ (1 : Int32) = 0 by decide), q_bind p3, q_bind q3, if_pos rfl])
                      · exact next 0 (Or.inl rfl) (fun q => absurd q (by decide)) (fun _ => Or.inr (fun hE => by unfold smE at hE; rw [p, q] at hE; exact ey (Option.some.inj hE))) (by rw [pre, q_bind p2, if_neg (t1 z hz), q_bind q2, if_pos rfl, if_neg (show ¬ (1 : Int32) = 0 by decide), q_bind p3, q_bind q3, if_neg ey])
            have h := loop (pn x) 0 (N - pn x - 1) 1 (by omega) (Or.inr rfl)
            rw [show N - pn x - 1 + 1 + pn x = N by omega] at h
            rcases h with ⟨h1, _, h2⟩ | ⟨h1, h2⟩
            · exact hgoal (Or.inr ⟨by rw [ag]; exact h1, hbl, hc, w3, ex, fun r hr => h2 r (by omega) hr⟩)
            · rcases h2 with h2 | ⟨r', _, h3, h4⟩
              · exact absurd h2 (by decide)
              · exact no (fun h => h4 (h.2.2.2.2 r' h3)) (by rw [ag]; exact h1)
          · have hne : ¬ nI x = nI g := fun q => hxg ((nI_eq (by omega) (by omega)).mp q)
            exact no (fun h => hne (ex.symm.trans h.2.2.2.1)) (by rw [ag, if_neg hne])
      · have hne : ¬ nI op = 10 := fun q => ho ((nI_eq (b := 10) (by omega) (by omega)).mp q)
        exact no (fun h => hne (w3.symm.trans h.2.2.1)) (zero (by rw [isc, w3, if_neg hne]))
  · exact no (fun h => hbl h.1) (zero (by rw [isc, if_pos (nI_le (by omega) (by omega))]))
