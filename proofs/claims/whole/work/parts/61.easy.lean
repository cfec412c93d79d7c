/-! PURE 2: small rows for the easy calls -/
theorem q_named (x1 x2 : Int32) : (f_X7_isTallied x1 x2 = some 0 ∧ f_X8_isNamed x1 x2 = some 0) ∨ ∃ f k : Nat, f < 12 ∧ k < 3 ∧ x1 = nI f ∧ x2 = nI k ∧ f_X7_isTallied x1 x2 = some 1 ∧ f_X8_isNamed x1 x2 = some 1 := by
  unfold f_X7_isTallied f_X8_isNamed
  rcases pk_ix x1 (n := 12) (by omega) with h | h | ⟨f, hf, rfl⟩
  · exact Or.inl ⟨if_pos h, if_pos h⟩
  · have h0 : ¬ x1 < 0 := q_nlt0 (by omega) h
    have h : 12 ≤ x1 := h
    exact Or.inl ⟨by rw [if_neg h0, if_pos h], by rw [if_neg h0, if_pos h]⟩
  · have h0 := nI_pos (n := f) (by omega)
    have h1 : ¬ 12 ≤ nI f := nI_ge (b := 12) hf (by omega)
    rw [if_neg h0, if_neg h1]
    rcases pk_ix x2 (n := 3) (by omega) with h | h | ⟨k, hk, rfl⟩
    · exact Or.inl ⟨if_pos h, if_pos h⟩
    · have h2 : ¬ x2 < 0 := q_nlt0 (by omega) h
      have h : 3 ≤ x2 := h
      exact Or.inl ⟨by rw [if_neg h2, if_pos h], by rw [if_neg h2, if_pos h]⟩
    · have h2 := nI_pos (n := k) (by omega)
      have h3 : ¬ 3 ≤ nI k := nI_ge (b := 3) hk (by omega)
      exact Or.inr ⟨f, k, hf, hk, rfl, rfl, by rw [if_neg h2, if_neg h3], by rw [if_neg h2, if_neg h3]⟩
theorem q_hasF (x : Int32) {n : Nat} (hn : n ≤ 12) : (f_X4_hasFunction x (nI n) = some 0 ∧ f_X8_isFunction x (nI n) = some 0) ∨ ∃ f : Nat, f < n ∧ x = nI f ∧ f_X4_hasFunction x (nI n) = some 1 ∧ f_X8_isFunction x (nI n) = some 1 := by
  unfold f_X4_hasFunction f_X8_isFunction
  rcases pk_ix x (n := n) (by omega) with h | h | ⟨f, hf, rfl⟩
  · exact Or.inl ⟨if_pos h, if_pos h⟩
  · have h0 : ¬ x < 0 := q_nlt0 (by omega) h
    exact Or.inl ⟨by rw [if_neg h0, if_pos h], by rw [if_neg h0, if_pos h]⟩
  · have h0 := nI_pos (n := f) (by omega)
    have h1 : ¬ nI n ≤ nI f := nI_ge hf (by omega)
    exact Or.inr ⟨f, hf, rfl, by rw [if_neg h0, if_neg h1], by rw [if_neg h0, if_neg h1]⟩
theorem q_hasF0 (x : Int32) {n : Nat} (hn : n ≤ 12) : (x < 0 ∨ (¬ x < 0 ∧ nI n ≤ x)) ∨ ∃ f : Nat, f < n ∧ x = nI f ∧ ¬ nI f < 0 ∧ ¬ nI n ≤ nI f := by
  rcases pk_ix x (n := n) (by omega) with h | h | ⟨f, hf, rfl⟩
  · exact Or.inl (Or.inl h)
  · exact Or.inl (Or.inr ⟨q_nlt0 (by omega) h, h⟩)
  · exact Or.inr ⟨f, hf, rfl, nI_pos (by omega), nI_ge hf (by omega)⟩
theorem q_kI : g_kk (α := Int32 × Int32 × Int32 × (Nat → Int32)) [g_IO, g_IS] (.inr g_IS) = 2 := by decide
/-- the analysed state is gone -/
theorem q_WP_tab {n e : Nat} {pn ln : Nat → Nat} {pc ls F en : Nat → Int32} {f : Nat} (h : WP n pn ln pc ls F e en) (hf : f < n) : WP n pn ln pc ls F (e + 1) (upd en e (nI f)) := by
  refine ⟨h.1, h.2.1, h.2.2.1, fun j hj => ?_⟩
  by_cases hje : j = e
  · subst hje; exact ⟨f, hf, q_upd_s⟩
  · rw [q_upd_n hje]; exact h.2.2.2 j (by omega)
theorem WS.mono {n n' : Nat} {F : Nat → Int32} {k : Nat} (h : WS n F k) (hn : n ≤ n') : WS n' F k := by
  obtain ⟨op, d, h1, h2, h3, h4, h5, h6, h7, h8⟩ := h
  exact ⟨op, d, h1, h2, h3, h4, h5, h6, fun q => let ⟨g, hg, e⟩ := h7 q; ⟨g, Nat.lt_of_lt_of_le hg hn, e⟩, h8⟩
def nup (f : Nat → Nat) (k v : Nat) : Nat → Nat := fun j => if j = k then v else f j
theorem nup_s {f : Nat → Nat} {k v : Nat} : nup f k v k = v := if_pos rfl
theorem nup_n {f : Nat → Nat} {k v j : Nat} (h : j ≠ k) : nup f k v j = f j := if_neg h
theorem q_WP_fun {n e p : Nat} {pn ln : Nat → Nat} {pc ls F en : Nat → Int32} (h : WP n pn ln pc ls F e en) (hp : p ≤ 3) (h0 : n = 0 → p = 0) : WP (n + 1) (nup pn n p) (nup ln n 0) (upd pc n (nI p)) (upd ls n 0) F e en := by
  refine ⟨fun f hf => ?_, ?_, fun f hf i hi => ?_, fun j hj => let ⟨g, hg, q⟩ := h.2.2.2 j hj; ⟨g, by omega, q⟩⟩
  · by_cases hfn : f = n
    · subst hfn; rw [nup_s, nup_s, q_upd_s, q_upd_s]; exact ⟨rfl, hp, rfl, by omega⟩
    · rw [nup_n hfn, nup_n hfn, q_upd_n hfn, q_upd_n hfn]; exact h.1 f (by omega)
  · by_cases hn : n = 0
    · subst hn; rw [nup_s]; exact h0 rfl
    · rw [nup_n (fun q => hn q.symm)]; exact h.2.1
  · by_cases hfn : f = n
    · rw [hfn, nup_s] at hi; omega
    · rw [nup_n hfn] at hi; exact (h.2.2.1 f (by omega) i hi).mono (by omega)
theorem q_addF {n : Nat} {x : Int32} {pc ls : Nat → Int32} (hn : n < 12) : f_X4_addFunction x (nI n) pc ls = some (nI n, nI n + 1, upd pc n x, upd ls n 0) := by
  unfold f_X4_addFunction; rw [q_bind (q_wr hn (by omega)), q_bind (q_wr hn (by omega))]
theorem q_k2 {α : Type} : g_kk (α := α) [g_IA, g_IS] (.inr g_IS) = 2 := by show nI _ = 2; decide
theorem q_k3 {α : Type} {a b c : String} (h1 : a ≠ c) (h2 : b ≠ c) : g_kk (α := α) [a, b, c] (.inr c) = 3 := by
  show nI (List.idxOf c [a, b, c] + 1) = 3
  have e : List.idxOf c [a, b, c] = 2 := by simp [List.idxOf_cons, beq_eq_false_iff_ne.mpr h1, beq_eq_false_iff_ne.mpr h2]
  rw [e]; rfl
theorem q_kb2 {α : Type} {a b : String} {l : List String} (h1 : a ≠ b) : g_kk (α := α) (a :: b :: l) (.inr b) = 2 := by
  show nI (List.idxOf b (a :: b :: l) + 1) = 2
  have e : List.idxOf b (a :: b :: l) = 1 := by simp [List.idxOf_cons, beq_eq_false_iff_ne.mpr h1]
  rw [e]; rfl
theorem q_kb1 {α : Type} {a : String} {l : List String} : g_kk (α := α) (a :: l) (.inr a) = 1 := by
  show nI (List.idxOf a (a :: l) + 1) = 1
  rw [List.idxOf_cons_self]; rfl
theorem q_start {f i : Nat} : f_X4_startOf (nI f) (nI i) = some (nI (96 * f + 6 * i)) := by
  unfold f_X4_startOf
  rw [show (16 : Int32) = nI 16 from rfl, show (6 : Int32) = nI 6 from rfl, pk_mul, nI_add, pk_mul, show (f * 16 + i) * 6 = 96 * f + 6 * i by omega]
theorem q_at96 {f i w : Nat} : (96 * nI f) + (6 * nI i) + nI w = nI (96 * f + 6 * i + w) := by
  rw [show (96 : Int32) = nI 96 from rfl, show (6 : Int32) = nI 6 from rfl, pk_mul, pk_mul, nI_add, nI_add]
theorem q_fieldOf {f i w : Nat} {F : Nat → Int32} (hf : f < 12) (hi : i < 16) (hw : w < 6) : f_X4_fieldOf (nI f) (nI i) (nI w) F = some (F (96 * f + 6 * i + w)) := by
  unfold f_X4_fieldOf; rw [q_bind q_start, nI_add, q_bind (q_rd (by omega) (by omega))]
theorem q_putField {f i w : Nat} {x : Int32} {F : Nat → Int32} (hf : f < 12) (hi : i < 16) (hw : w < 6) : f_X4_putField (nI f) (nI i) (nI w) x F = some (upd F (96 * f + 6 * i + w) x) := by
  unfold f_X4_putField; rw [q_bind q_start, nI_add, q_bind (q_wr (by omega) (by omega))]
theorem q_and7 {r : Nat} (h : r < 8) : nI r &&& 7 = nI r := by
  rw [pk_andN (n := r) (by omega) 3 (by decide), Nat.mod_eq_of_lt (by omega)]
theorem q_reg {p r : Nat} : nI p * 6 + nI r = nI (6 * p + r) := by
  rw [show (6 : Int32) = nI 6 from rfl, pk_mul, nI_add, show p * 6 + r = 6 * p + r by omega]
theorem q_hasR {p r : Nat} {an : Nat → Int32} (hp : p < 204) (hr : r < 6) : f_X1_hasNumber (nI p) (nI r) an = some (if an (6 * p + r) = 0 then 1 else 0) := by
  unfold f_X1_hasNumber
  rw [q_and7 (by omega), if_neg (show ¬ 6 ≤ nI r from nI_ge (b := 6) hr (by omega)), q_reg, q_bind (q_rd (by omega) (by omega))]
  by_cases h : an (6 * p + r) = 0
  · rw [if_pos h, if_pos h]
  · rw [if_neg h, if_neg h]
theorem q_numR {p r : Nat} {nu : Nat → Int32} (hp : p < 204) (hr : r < 6) : f_X1_numberOf (nI p) (nI r) nu = some (nu (6 * p + r)) := by
  unfold f_X1_numberOf
  rw [q_and7 (by omega), if_neg (show ¬ 6 ≤ nI r from nI_ge (b := 6) hr (by omega)), q_reg, q_bind (q_rd (by omega) (by omega))]
theorem q_placeOf {f p : Nat} {ln : Nat → Nat} {ls : Nat → Int32} (hf : f < 12) (hp : p < 100) (hl : ls f = nI (ln f)) (h16 : ln f ≤ 16) : f_X4_placeOf (nI f) (nI p) ls = some (nI (17 * f + min p (ln f))) := by
  unfold f_X4_placeOf
  rw [q_bind (q_rd hf (by omega)), hl]
  have e : ∀ k : Nat, nI f * 17 + nI k = nI (17 * f + k) := fun k => by rw [show (17 : Int32) = nI 17 from rfl, pk_mul, nI_add, show f * 17 + k = 17 * f + k by omega]
  by_cases h : ln f ≤ p
  · rw [if_pos (nI_le h (by omega)), q_bind (q_rd hf (by omega)), hl, e, Nat.min_eq_right h]
  · rw [if_neg (nI_ge (by omega) (by omega)), e, Nat.min_eq_left (by omega)]
theorem q_find {f p r n : Nat} {ln : Nat → Nat} {ls : Nat → Int32} {c k : Int32} (hf : f < n) (hn : n ≤ 12) (hp : p ≤ 16) (hr : r < 6) (hk : ¬ k = 0) (hl : ls f = nI (ln f)) (h16 : ln f ≤ 16) : f_X8_find (nI f) (nI p) (nI r) c (nI n) k ls = some (nI (6 * (17 * f + min p (ln f)) + r), 0) := by
  unfold f_X8_find
  rw [if_neg hk, if_neg (nI_pos (by omega)), if_neg (nI_ge hf (by omega)), if_neg (nI_pos (by omega)), if_neg (show ¬ 16 < nI p from nI_nlt (a := 16) hp (by omega)), if_neg (nI_pos (by omega)), if_pos (show nI r < 6 from nI_lt (b := 6) hr (by omega))]
  unfold f_X8_find_49
  have e : ∀ q : Nat, 6 * (17 * nI f + nI q) + nI r = nI (6 * (17 * f + q) + r) := fun q => by rw [show (17 : Int32) = nI 17 from rfl, show (6 : Int32) = nI 6 from rfl, pk_mul, nI_add, pk_mul, nI_add]
  rw [if_pos (by decide), q_bind (q_rd (by omega) (by omega)), hl]
  by_cases h : p ≤ ln f
  · rw [if_pos (nI_le h (by omega)), e, Nat.min_eq_left h]
  · rw [if_neg (nI_ge (by omega) (by omega)), q_bind (q_rd (by omega) (by omega)), hl, e, Nat.min_eq_right (by omega)]
/-- the three numbers of kind and number: all good, or both sides say no -/
theorem q_ask (x1 x2 x3 : Int32) {n : Nat} {nl : Nat → Nat} {ls ml : Nat → Int32} {a k c : Int32} (hn : n ≤ 12) (ha : ¬ a = 0) (hk : ¬ k = 0) (hl : ∀ f, f < n → ls f = nI (nl f) ∧ nl f ≤ 16) :
    (f_X7_askedPlace x1 x2 x3 a (nI n) ls = some (.inr g_IO) ∧ f_X8_find x1 x2 x3 c (nI n) k ml = some (0, 2)) ∨ ∃ f p r : Nat, f < n ∧ p ≤ 16 ∧ r < 6 ∧ x1 = nI f ∧ x2 = nI p ∧ x3 = nI r ∧ f_X7_askedPlace x1 x2 x3 a (nI n) ls = some (.inl (nI (17 * f + min p (nl f)))) := by
  unfold f_X7_askedPlace f_X8_find
  rw [if_neg ha, if_neg hk]
  rcases q_hasF0 x1 (n := n) hn with (h | ⟨h, h'⟩) | ⟨f, hf, rfl, hf0, hf1⟩
  · exact Or.inl ⟨by unfold f_X4_hasFunction; rw [if_pos h]; rfl, by rw [if_pos h]; rfl⟩
  · exact Or.inl ⟨by unfold f_X4_hasFunction; rw [if_neg h, if_pos h']; rfl, by rw [if_neg h, if_pos h']; rfl⟩
  · have aF : f_X4_hasFunction (nI f) (nI n) = some 1 := by unfold f_X4_hasFunction; rw [if_neg hf0, if_neg hf1]
    rw [q_bind aF, if_neg (by decide), if_neg hf0, if_neg hf1]
    rcases pk_ix x2 (n := 17) (by omega) with h | h | ⟨p, hp, rfl⟩
    · exact Or.inl ⟨if_pos h, by rw [if_pos h]; rfl⟩
    · have h0 : ¬ x2 < 0 := q_nlt0 (by omega) h
      have h17 : 17 ≤ x2 := h
      have h16 : 16 < x2 := Int32.lt_of_lt_of_le (show (16 : Int32) < nI 17 by decide) h
      exact Or.inl ⟨by rw [if_neg h0, if_pos h17], by rw [if_neg h0, if_pos h16]; rfl⟩
    · rw [if_neg (nI_pos (by omega)), if_neg (show ¬ 17 ≤ nI p from nI_ge (b := 17) hp (by omega)), if_neg (nI_pos (by omega)), if_neg (show ¬ 16 < nI p from nI_nlt (a := 16) (by omega) (by omega))]
      rcases pk_ix x3 (n := 6) (by omega) with h | h | ⟨r, hr, rfl⟩
      · exact Or.inl ⟨if_pos h, by rw [if_pos h]; rfl⟩
      · have h0 : ¬ x3 < 0 := q_nlt0 (by omega) h
        have h6 : ¬ x3 < 6 := q_nlt h
        exact Or.inl ⟨by rw [if_neg h0, if_neg h6], by rw [if_neg h0, if_neg h6]; rfl⟩
      · exact Or.inr ⟨f, p, r, hf, by omega, hr, rfl, rfl, rfl, by rw [if_neg (nI_pos (by omega)), if_pos (show nI r < 6 from nI_lt (b := 6) hr (by omega)), q_bind (q_placeOf (by omega) (by omega) (hl f hf).1 (hl f hf).2)]⟩
theorem q_div6 {p r : Nat} (hp : p < 204) (hr : r < 6) : g_dv (nI (6 * p + r)) 6 = some (nI p) := by
  unfold g_dv
  rw [if_neg (by decide), show (6 : Int32) = nI 6 from rfl, pk_div (by omega) (by omega) (by omega), show (6 * p + r) / 6 = p by omega]
