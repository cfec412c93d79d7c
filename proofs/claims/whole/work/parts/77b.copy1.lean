/-! PURE 16: learn from its start; both know the same; the first special call -/
theorem q_news {N : Nat} {g x nw : Int32} {len ct an nu oa ou : Nat → Int32} : ∃ nw1 : Int32, (nw1 = 0 ∨ nw1 = 1) ∧ f_X8_come N g x nw len ct an nu oa ou = f_X8_come N g x nw1 len ct an nu oa ou := by
  by_cases h : nw = 0
  · exact ⟨0, Or.inl rfl, by rw [h]⟩
  · refine ⟨1, Or.inr rfl, ?_⟩
    unfold f_X8_come f_X8_come_24
    simp only [if_neg h, if_neg (show ¬ (1 : Int32) = 0 by decide)]
theorem q_l2 {n : Nat} (hn : n ≤ 12) (N : Nat) (te nw : Int32) (par len now tab an nu oa ou : Nat → Int32) : ∀ (j k m : Nat) (ct : Nat → Int32), k + j = 17 * n → B01 204 ct → (∀ i, i < k → ct i = 0) → ∃ ct' : Nat → Int32, B01 204 ct' ∧ (∀ i, i < 17 * n → ct' i = 0) ∧ f_X8_learn_2 N (nI n) te par len now tab (m + 1 + j) (nI k) nw ct an nu oa ou = f_X8_learn_28 N (nI n) te par len now tab N 0 nw ct' an nu oa ou := by
  have e : (17 : Int32) * nI n = nI (17 * n) := by rw [show (17 : Int32) = nI 17 from rfl, pk_mul]
  intro j
  induction j with
  | zero =>
    intro k m ct hk hB h
    obtain rfl : k = 17 * n := by omega
    exact ⟨ct, hB, h, by rw [show m + 1 + 0 = m + 1 from rfl, f_X8_learn_2, e, if_pos (nI_le (by omega) (by omega))]⟩
  | succ j ih =>
    intro k m ct hk hB h
    obtain ⟨ct', a, b, c⟩ := ih (k + 1) m (upd ct k 0) (by omega) (B01_u hB (Or.inl rfl)) (fun i hi => by
      by_cases e : i = k
      · subst e; exact q_upd_s
      · rw [q_upd_n e]; exact h i (by omega))
    refine ⟨ct', a, b, ?_⟩
    rw [show m + 1 + (j + 1) = m + 1 + j + 1 from rfl, f_X8_learn_2, e, if_neg (nI_ge (by omega) (by omega)), q_bind (q_wz (by omega) (by omega) (Or.inl rfl)), nI_1, c]
theorem q_l28 {n : Nat} (hn : n ≤ 12) (N : Nat) (te nw : Int32) (par len now tab ct oa ou : Nat → Int32) : ∀ (j k m : Nat) (an nu : Nat → Int32), k + j = 102 * n → B01 1224 an → (∀ i, i < k → an i = 0) → ∃ an' nu' : Nat → Int32, B01 1224 an' ∧ (∀ i, i < 102 * n → an' i = 0) ∧ f_X8_learn_28 N (nI n) te par len now tab (m + 1 + j) (nI k) nw ct an nu oa ou = f_X8_learn_61 N (nI n) te par len now tab N 0 nw ct an' nu' oa ou := by
  have e : (102 : Int32) * nI n = nI (102 * n) := by rw [show (102 : Int32) = nI 102 from rfl, pk_mul]
  intro j
  induction j with
  | zero =>
    intro k m an nu hk hB h
    obtain rfl : k = 102 * n := by omega
    exact ⟨an, nu, hB, h, by rw [show m + 1 + 0 = m + 1 from rfl, f_X8_learn_28, e, if_pos (nI_le (by omega) (by omega))]⟩
  | succ j ih =>
    intro k m an nu hk hB h
    obtain ⟨an', nu', a, b, c⟩ := ih (k + 1) m (upd an k 0) (upd nu k 0) (by omega) (B01_u hB (Or.inl rfl)) (fun i hi => by
      by_cases e : i = k
      · subst e; exact q_upd_s
      · rw [q_upd_n e]; exact h i (by omega))
    refine ⟨an', nu', a, b, ?_⟩
    rw [show m + 1 + (j + 1) = m + 1 + j + 1 from rfl, f_X8_learn_28, e, if_neg (nI_ge (by omega) (by omega)), q_bind (q_wz (by omega) (by omega) (Or.inl rfl)), q_bind (q_wr (by omega) (by omega)), nI_1, c]
theorem q_l61 (N : Nat) (cn te nw : Int32) (par len now tab ct an nu : Nat → Int32) : ∀ (j k m : Nat) (oa ou : Nat → Int32), k + j = 6 → B01 6 oa → (∀ i, i < k → rV oa ou i = some 0) → ∃ oa' ou' : Nat → Int32, B01 6 oa' ∧ (∀ i, i < 6 → rV oa' ou' i = some 0) ∧ f_X8_learn_61 N cn te par len now tab (m + 1 + j) (nI k) nw ct an nu oa ou = (f_X8_come N 0 0 nw len ct an nu oa' ou').bind (fun o11 => f_X8_learn_98 N cn te par len now tab N 1 o11.2.1 o11.2.2.1 o11.2.2.2 oa' ou') := by
  intro j
  induction j with
  | zero =>
    intro k m oa ou hk hB h
    obtain rfl : k = 6 := by omega
    exact ⟨oa, ou, hB, h, by rw [show m + 1 + 0 = m + 1 from rfl, f_X8_learn_61, if_pos (by decide)]⟩
  | succ j ih =>
    intro k m oa ou hk hB h
    obtain ⟨oa', ou', a, b, c⟩ := ih (k + 1) m (upd oa k 0) (upd ou k 0) (by omega) (B01_u hB (Or.inl rfl)) (fun i hi => by
      rw [rV_N]
      by_cases e : i = k
      · rw [if_pos e]
      · rw [if_neg e]; exact h i (by omega))
    refine ⟨oa', ou', a, b, ?_⟩
    rw [show m + 1 + (j + 1) = m + 1 + j + 1 from rfl, f_X8_learn_61, if_neg (show ¬ 6 ≤ nI k from nI_ge (b := 6) (by omega) (by omega)), q_bind (q_wz (by omega) (by omega) (Or.inl rfl)), q_bind (q_wr (by omega) (by omega)), nI_1, c]
theorem q_learnR {n : Nat} {ln pn : Nat → Nat} {F : Nat → Int32} {e : Nat} {en pc ls par len now tab : Nat → Int32} (hW : WP n pn ln pc ls F e en) (hR : RP n ln pn F e en par len now tab) (h0 : 0 < n) (hn : n ≤ 12) (he : e ≤ 4) {N : Nat} (hN : 20000 ≤ N) {ct an oa : Nat → Int32} (nw : Int32) (nu ou : Nat → Int32) (hct : B01 204 ct) (han : B01 1224 an) (hoa : B01 6 oa) :
    ∃ (ct' an' nu' oa' ou' : Nat → Int32), f_X8_learn N (nI n) (nI e) nw par len now tab ct an nu oa ou = some (0, ct', an', nu', oa', ou') ∧ B01 6 oa' ∧ DI n ct' an' nu' ∧ Sol n ln pn F e en (kC ct' an' nu') ∧ Bel n ln pn F e en (kC ct' an' nu') := by
  obtain ⟨ct1, a1, a2, a3⟩ := q_l2 hn N (nI e) nw par len now tab an nu oa ou (17 * n) 0 (N - 17 * n - 1) ct (by omega) hct (fun i hi => absurd hi (Nat.not_lt_zero i))
  rw [show N - 17 * n - 1 + 1 + 17 * n = N by omega] at a3
  obtain ⟨an1, nu1, b1, b2, b3⟩ := q_l28 hn N (nI e) nw par len now tab ct1 oa ou (102 * n) 0 (N - 102 * n - 1) an nu (by omega) han (fun i hi => absurd hi (Nat.not_lt_zero i))
  rw [show N - 102 * n - 1 + 1 + 102 * n = N by omega] at b3
  obtain ⟨oa1, ou1, c1, c2, c3⟩ := q_l61 N (nI n) (nI e) nw par len now tab ct1 an1 nu1 6 0 (N - 7) oa ou rfl hoa (fun i hi => absurd hi (Nat.not_lt_zero i))
  rw [show N - 7 + 1 + 6 = N by omega] at c3
  have hf : ∀ q, q < 17 * n → (kC ct1 an1 nu1).1 q = false := fun q hq => kC_f.mpr (a2 q hq)
  have hB : Bel n ln pn F e en (kC ct1 an1 nu1) := fun S hS q hq hc => by
    rw [hf q hq] at hc; cases hc
  have hD : DI n ct1 an1 nu1 := ⟨a1, b1, fun k hk h => absurd (b2 k hk) h⟩
  obtain ⟨nw1, hnw1, hnews⟩ := q_news (N := N) (g := nI 0) (x := nI 0) (nw := nw) (len := len) (ct := ct1) (an := an1) (nu := nu1) (oa := oa1) (ou := ou1)
  obtain ⟨nw', ct', an', nu', d1, d2, d3, d4, d5, d6⟩ := q_comeA (g := 0) (x := 0) (t := 0) hN hn h0 (by omega) (hR.1 0 h0).2 (hW.1 0 h0).2.2.2 (by omega) hnw1 hD hB (row := fun _ => some 0) c2 (fun S hS => ⟨hS.1, hS.2.1⟩)
  obtain ⟨ct2, an2, nu2, oa2, ou2, e1, e2⟩ := q_98 hW hR h0 hn he hN (7 * (17 * n)) N ct' an' nu' oa1 ou1 (by omega) (by omega) d2 c1 d3 d5 d6
  refine ⟨ct2, an2, nu2, oa2, ou2, ?_, e2⟩
  unfold f_X8_learn
  refine a3.trans (b3.trans (c3.trans ?_))
  rw [q_bind (show f_X8_come N 0 0 nw len ct1 an1 nu1 oa1 ou1 = _ from hnews.trans d1)]
  exact e1
/-- a function that is not reached has no place that is come to -/
theorem Sol_reach {n : Nat} {ln pn : Nat → Nat} {F : Nat → Int32} {e : Nat} {en : Nat → Int32} {K : KS} (h : Sol n ln pn F e en K) (hb : Bel n ln pn F e en K) (hl' : ∀ f, f < n → ln f ≤ 16) {f p : Nat} (hf : f < n) (hp : p < 17) (hc : K.1 (17 * f + p) = true) : K.1 (17 * f) = true := by
  have hS : Sol n ln pn F e en (fun q => K.1 q && K.1 (17 * (q / 17)), K.2) := by
    refine ⟨?_, h.2.1, fun f' hf' p' hp' hc' t row ha => ?_⟩
    · show (K.1 0 && K.1 (17 * (0 / 17))) = true
      rw [show 17 * (0 / 17) = 0 from rfl, h.1]; rfl
    · have hc1 : K.1 (17 * f' + p') = true ∧ K.1 (17 * ((17 * f' + p') / 17)) = true := by
        have : (K.1 (17 * f' + p') && K.1 (17 * ((17 * f' + p') / 17))) = true := hc'
        exact (Bool.and_eq_true _ _).mp this
      obtain ⟨b1, b2⟩ := h.2.2 f' hf' p' hp' hc1.1 t row ha
      refine ⟨?_, b2⟩
      show (K.1 t && K.1 (17 * (t / 17))) = true
      have : K.1 (17 * (t / 17)) = true := by
        obtain ⟨op, d, o1, o2, o3, o4, ha⟩ := ha
        have nx : ∀ y, t = 17 * f' + min y (ln f') → ln f' ≤ 16 → K.1 (17 * (t / 17)) = true := fun y hy hl => by
          have e1 : t / 17 = (17 * f' + p') / 17 := by omega
          rw [e1]; exact hc1.2
        have hl := hl' f' hf'
        rcases ha with (⟨_, g, _, _, a4, _⟩ | ⟨_, j, g, _, _, _, _, a6, _⟩) | (⟨_, x, _, _, a4, _⟩ | ⟨_, a2, _⟩)
        · rw [show 17 * (t / 17) = t by omega]; exact b1
        · rw [show 17 * (t / 17) = t by omega]; exact b1
        · exact nx x a4 hl
        · exact nx _ a2 hl
      rw [b1, this]; rfl
  have := (hb _ hS (17 * f + p) (by omega) hc).1
  have h2 : K.1 (17 * f + p) = true ∧ K.1 (17 * ((17 * f + p) / 17)) = true := (Bool.and_eq_true _ _).mp this
  rw [show (17 * f + p) / 17 = f by omega] at h2
  exact h2.2
