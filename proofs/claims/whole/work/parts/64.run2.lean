/-! PURE 5: run, calls -/
theorem q_regs {x1 : Int32} {n : Nat} {ln : Nat → Nat} {F len nlen first anew : Nat → Int32} (hP : QP x1 n ln F len nlen first anew) {f i t g pg : Nat} (hf : f < n) (hi : i < ln f) (hl : ln f ≤ 16) (ht : t < 10) (hg : g < n) {pc par : Nat → Int32} (hpc : pc g = nI pg) (hpar : par g = nI pg) (hp3 : pg ≤ 3) (hop : ∀ j, j < pg → isOpd (F (96 * f + 6 * i + 3 + j))) (N : Nat) (oc : Int32) (cc lv df of os at_ in_ ba ca la di : Nat → Int32) :
    ∀ (j r : Nat) (rg re : Nat → Int32) (nC nR : Nat), r + j = 6 → (∀ q, q < 6 * (t + 1) + r → rg q = re q) → (∀ k, pg ≤ k → k < r → re (6 * (t + 1) + k) = 0) →
      ∃ rg' re' : Nat → Int32, (∀ q, q < 6 * (t + 1) + 6 → rg' q = re' q) ∧ (∀ k, pg ≤ k → k < 6 → re' (6 * (t + 1) + k) = 0) ∧
        f_X2_enterCall_23 N (nI f) (nI i) (nI t) (nI g) pc F (nC + j) (nI (6 * (t + 1))) (nI r) oc cc lv df of os rg = f_X2_enterCall_23 N (nI f) (nI i) (nI t) (nI g) pc F nC (nI (6 * (t + 1))) (nI 6) oc cc lv df of os rg' ∧
        f_X8_begin_14 N x1 (nI g) (nI (96 * f + 6 * i)) par first anew (nR + j) (nI r) (nI (t + 1)) at_ in_ ba re ca la di = f_X8_begin_14 N x1 (nI g) (nI (96 * f + 6 * i)) par first anew nR (nI 6) (nI (t + 1)) at_ in_ ba re' ca la di := by
  have hn := hP.le
  intro j
  induction j with
  | zero =>
    intro r rg re nC nR hr h1 h2
    obtain rfl : r = 6 := by omega
    exact ⟨rg, re, h1, h2, rfl, rfl⟩
  | succ j ih =>
    intro r rg re nC nR hr h1 h2
    have hr6 : ¬ 6 ≤ nI r := nI_ge (b := 6) (by omega) (by omega)
    have step : ∀ v : Int32, (r < pg ∨ v = 0) → f_X2_enterCall_23 N (nI f) (nI i) (nI t) (nI g) pc F (nC + (j + 1)) (nI (6 * (t + 1))) (nI r) oc cc lv df of os rg = f_X2_enterCall_23 N (nI f) (nI i) (nI t) (nI g) pc F (nC + j) (nI (6 * (t + 1))) (nI (r + 1)) oc cc lv df of os (upd rg (6 * (t + 1) + r) v) → f_X8_begin_14 N x1 (nI g) (nI (96 * f + 6 * i)) par first anew (nR + (j + 1)) (nI r) (nI (t + 1)) at_ in_ ba re ca la di = f_X8_begin_14 N x1 (nI g) (nI (96 * f + 6 * i)) par first anew (nR + j) (nI (r + 1)) (nI (t + 1)) at_ in_ ba (upd re (6 * (t + 1) + r) v) ca la di →
      ∃ rg' re' : Nat → Int32, (∀ q, q < 6 * (t + 1) + 6 → rg' q = re' q) ∧ (∀ k, pg ≤ k → k < 6 → re' (6 * (t + 1) + k) = 0) ∧
        f_X2_enterCall_23 N (nI f) (nI i) (nI t) (nI g) pc F (nC + (j + 1)) (nI (6 * (t + 1))) (nI r) oc cc lv df of os rg = f_X2_enterCall_23 N (nI f) (nI i) (nI t) (nI g) pc F nC (nI (6 * (t + 1))) (nI 6) oc cc lv df of os rg' ∧
        f_X8_begin_14 N x1 (nI g) (nI (96 * f + 6 * i)) par first anew (nR + (j + 1)) (nI r) (nI (t + 1)) at_ in_ ba re ca la di = f_X8_begin_14 N x1 (nI g) (nI (96 * f + 6 * i)) par first anew nR (nI 6) (nI (t + 1)) at_ in_ ba re' ca la di := by
      intro v hv eC eR
      obtain ⟨rg', re', a, b, c, d⟩ := ih (r + 1) (upd rg (6 * (t + 1) + r) v) (upd re (6 * (t + 1) + r) v) nC nR (by omega) (fun q hq => by
        by_cases e : q = 6 * (t + 1) + r
        · subst e; rw [q_upd_s, q_upd_s]
        · exact q_updE (h1 q (by omega))) (fun k hk1 hk2 => by
        by_cases e : k = r
        · subst e; rw [q_upd_s]; exact hv.resolve_left (by omega)
        · rw [q_upd_n (by omega)]; exact h2 k hk1 (by omega))
      exact ⟨rg', re', a, b, eC.trans c, eR.trans d⟩
    by_cases hpr : pg ≤ r
    · refine step 0 (Or.inr rfl) ?_ ?_
      · show f_X2_enterCall_23 N (nI f) (nI i) (nI t) (nI g) pc F (nC + j + 1) (nI (6 * (t + 1))) (nI r) oc cc lv df of os rg = _
        rw [f_X2_enterCall_23, if_neg hr6, q_bind (q_rd (by omega) (by omega)), hpc, if_pos (nI_le hpr (by omega)), nI_add, q_bind (q_wr (by omega) (by omega)), nI_1]
      · show f_X8_begin_14 N x1 (nI g) (nI (96 * f + 6 * i)) par first anew (nR + j + 1) (nI r) (nI (t + 1)) at_ in_ ba re ca la di = _
        rw [f_X8_begin_14, if_neg hr6, if_neg (nI_pos (by omega)), q_bind (q_rd (by omega) (by omega)), hpar, if_pos (nI_le hpr (by omega))]
        unfold f_X8_begin_41
        rw [if_pos rfl, q_m6, nI_add, q_bind (q_wr (by omega) (by omega)), nI_1]
    · obtain ⟨v, v1, v2⟩ := q_val (t := t) (by omega) (F (96 * f + 6 * i + 3 + r)) (rg := rg) (re := re) (fun q hq => h1 q (by omega))
      refine step v (Or.inl (by omega)) ?_ ?_
      · show f_X2_enterCall_23 N (nI f) (nI i) (nI t) (nI g) pc F (nC + j + 1) (nI (6 * (t + 1))) (nI r) oc cc lv df of os rg = _
        rw [f_X2_enterCall_23, if_neg hr6, q_bind (q_rd (by omega) (by omega)), hpc, if_neg (nI_ge (by omega) (by omega)), show (3 : Int32) + nI r = nI (3 + r) from nI_add 3 r, q_bind (q_fieldOf (by omega) (by omega) (by omega)), show 96 * f + 6 * i + (3 + r) = 96 * f + 6 * i + 3 + r by omega, q_bind v1, nI_add, q_bind (q_wr (by omega) (by omega)), nI_1]
      · show f_X8_begin_14 N x1 (nI g) (nI (96 * f + 6 * i)) par first anew (nR + j + 1) (nI r) (nI (t + 1)) at_ in_ ba re ca la di = _
        rw [f_X8_begin_14, if_neg hr6, if_neg (nI_pos (by omega)), q_bind (q_rd (by omega) (by omega)), hpar, if_neg (nI_ge (by omega) (by omega))]
        unfold f_X8_begin_41
        rw [if_neg (show ¬ (1 : Int32) = 0 by decide), show nI (96 * f + 6 * i) + 3 = nI (96 * f + 6 * i + 3) from nI_add _ 3, nI_add, q_src hP hf hi hl (w := 3 + r) (by omega) (by omega), q_bind (v2 (hop r (by omega))), q_m6, nI_add, q_bind (q_wr (by omega) (by omega)), nI_1]
theorem q_enter {x1 : Int32} {n : Nat} {ln : Nat → Nat} {F len nlen first anew : Nat → Int32} (hP : QP x1 n ln F len nlen first anew) {f i t g pg : Nat} (hf : f < n) (hi : i < ln f) (hl : ln f ≤ 16) (ht : t < 11) (hg : g < n) {pc par : Nat → Int32} (hpc : pc g = nI pg) (hpar : par g = nI pg) (hp3 : pg ≤ 3) (hop : ∀ j, j < pg → isOpd (F (96 * f + 6 * i + 3 + j))) {N : Nat} (hN : 20000 ≤ N) {cc lv df ca la di rg re : Nat → Int32} (of os at_ in_ ba : Nat → Int32) (hT : TI cc lv df ca la di) (hr : ∀ q, q < 6 * (t + 1) → rg q = re q) :
    (t = 10 ∧ f_X2_enterCall N (nI f) (nI i) (nI t) (nI g) (nI (t + 1)) pc F cc lv df of os rg = some (0, nI (t + 1), cc, lv, df, of, os, rg) ∧ f_X8_begin N x1 (nI g) (nI (96 * f + 6 * i)) (nI (t + 1)) par first anew at_ in_ ba re ca la di = some (0, nI (t + 1), at_, in_, ba, re, ca, la, di)) ∨
    (t < 10 ∧ ∃ cc' lv' df' ca' la' di' rg' re' : Nat → Int32, TI cc' lv' df' ca' la' di' ∧ (∀ q, q < 6 * (t + 1 + 1) → rg' q = re' q) ∧ f_X2_enterCall N (nI f) (nI i) (nI t) (nI g) (nI (t + 1)) pc F cc lv df of os rg = some (1, nI (t + 1 + 1), cc', lv', df', upd of (t + 1) (nI g), upd os (t + 1) 0, rg') ∧ f_X8_begin N x1 (nI g) (nI (96 * f + 6 * i)) (nI (t + 1)) par first anew at_ in_ ba re ca la di = some (1, nI (t + 1 + 1), upd at_ (t + 1) 0, upd in_ (t + 1) (nI g), upd ba (t + 1) (F (96 * f + 6 * i + 1)), re', ca', la', di')) := by
  have hn := hP.le
  unfold f_X2_enterCall f_X8_begin
  by_cases h10 : t = 10
  · subst h10
    exact Or.inl ⟨rfl, by rw [if_neg (by decide)], by rw [if_pos (by decide)]⟩
  · right
    refine ⟨by omega, ?_⟩
    obtain ⟨m, rfl⟩ : ∃ m, N = m + 1 + 6 := ⟨N - 7, by omega⟩
    obtain ⟨rg', re', a, b, c, d⟩ := q_regs hP hf hi hl (by omega) hg hpc hpar hp3 hop (m + 1 + 6) (nI (t + 1)) cc lv df of os at_ in_ ba ca la di 6 0 rg re (m + 1) (m + 1) (by omega) hr (fun k _ hk => absurd hk (Nat.not_lt_zero k))
    obtain ⟨cc', lv', df', ca', la', di', T, e1, e2⟩ := q_tally (f := g) (d := t + 1) (p := pg) (by omega) (by omega) hpar hp3 (row := rg') (re := re') (fun k hk => a _ (by omega)) (fun k h1 h2 => b k h1 (by omega)) hT
    refine ⟨cc', lv', df', ca', la', di', rg', re', T, fun q hq => a q (by omega), ?_, ?_⟩
    · rw [if_pos (show nI (t + 1) < 11 from nI_lt (b := 11) (by omega) (by omega)), q_6m]
      refine c.trans ?_
      rw [f_X2_enterCall_23, if_pos (show 6 ≤ nI 6 by decide), q_bind (q_wr (by omega) (by omega)), q_bind (q_wr (by omega) (by omega)), q_bind (e1 _ (by omega)), nI_1]
    · rw [if_neg (show ¬ nI (t + 1) = 11 from fun q => by have := (nI_eq (b := 11) (by omega) (by omega)).mp q; omega)]
      refine d.trans ?_
      rw [f_X8_begin_14, if_pos (show 6 ≤ nI 6 by decide), e2 _ _ _ _ _ _ _ _ _ (by omega), q_bind (q_wr (by omega) (by omega)), q_bind (q_wr (by omega) (by omega)), if_pos (nI_pos' (by omega)), nI_1, q_src hP hf hi hl (w := 1) (by omega) rfl, q_bind (q_wr (by omega) (by omega)), nI_1]
/-- the frames of both agree -/
def FI (n : Nat) (ln : Nat → Nat) (F : Nat → Int32) (d : Nat) (fn st : Nat → Nat) (of os rg at_ in_ ba re : Nat → Int32) : Prop :=
  d ≤ 11 ∧ (∀ k, k < d → of k = nI (fn k) ∧ in_ k = nI (fn k) ∧ fn k < n ∧ os k = nI (st k) ∧ st k ≤ 16) ∧ (∀ k, k + 1 = d → at_ k = nI (st k)) ∧
    (∀ k, k + 1 < d → at_ k = nI (st k + 1) ∧ st k < ln (fn k) ∧ ba (k + 1) = F (96 * fn k + 6 * st k + 1)) ∧ ∀ q, q < 6 * d → rg q = re q
/-- the top frame goes on at y -/
theorem FI.on {n : Nat} {ln : Nat → Nat} {F : Nat → Int32} {t : Nat} {fn st : Nat → Nat} {of os rg at_ in_ ba re : Nat → Int32} (h : FI n ln F (t + 1) fn st of os rg at_ in_ ba re) {y : Nat} (hy : y ≤ 16) {at' rg' re' : Nat → Int32} (ha : ∀ k, k < t → at' k = at_ k) (hat : at' t = nI y) (hr : ∀ q, q < 6 * (t + 1) → rg' q = re' q) :
    FI n ln F (t + 1) fn (nup st t y) of (upd os t (nI y)) rg' at' in_ ba re' := by
  obtain ⟨h1, h2, h3, h4, h5⟩ := h
  refine ⟨h1, fun k hk => ?_, fun k hk => ?_, fun k hk => ?_, hr⟩
  · obtain ⟨a, b, c, d, e⟩ := h2 k hk
    by_cases hkt : k = t
    · subst hkt; rw [q_upd_s, nup_s]; exact ⟨a, b, c, rfl, hy⟩
    · rw [q_upd_n hkt, nup_n hkt]; exact ⟨a, b, c, d, e⟩
  · obtain rfl : k = t := by omega
    rw [nup_s]; exact hat
  · rw [nup_n (by omega), ha k (by omega)]; exact h4 k hk
/-- a frame is added -/
theorem FI.push {n : Nat} {ln : Nat → Nat} {F : Nat → Int32} {t : Nat} {fn st : Nat → Nat} {of os rg at_ in_ ba re : Nat → Int32} (h : FI n ln F (t + 1) fn st of os rg at_ in_ ba re) (ht : t < 10) (hi : st t < ln (fn t)) {g : Nat} (hg : g < n) {rg' re' : Nat → Int32} (hr : ∀ q, q < 6 * (t + 1 + 1) → rg' q = re' q) :
    FI n ln F (t + 1 + 1) (nup fn (t + 1) g) (nup st (t + 1) 0) (upd of (t + 1) (nI g)) (upd os (t + 1) 0) rg' (upd (upd at_ t (nI (st t + 1))) (t + 1) 0) (upd in_ (t + 1) (nI g)) (upd ba (t + 1) (F (96 * fn t + 6 * st t + 1))) re' := by
  obtain ⟨h1, h2, h3, h4, h5⟩ := h
  refine ⟨by omega, fun k hk => ?_, fun k hk => ?_, fun k hk => ?_, hr⟩
  · by_cases hkt : k = t + 1
    · subst hkt; rw [q_upd_s, q_upd_s, q_upd_s, nup_s, nup_s]; exact ⟨rfl, rfl, hg, rfl, by omega⟩
    · rw [q_upd_n hkt, q_upd_n hkt, q_upd_n hkt, nup_n hkt, nup_n hkt]; exact h2 k (by omega)
  · obtain rfl : k = t + 1 := by omega
    rw [nup_s, q_upd_s]; rfl
  · rw [nup_n (f := st) (by omega), nup_n (f := fn) (by omega), q_upd_n (k := t + 1) (j := k) (by omega)]
    by_cases hkt : k = t
    · subst hkt; rw [q_upd_s, q_upd_s]; exact ⟨rfl, hi, rfl⟩
    · rw [q_upd_n hkt, q_upd_n (by omega)]; exact h4 k (by omega)
/-- a frame is left -/
theorem q_leave {n : Nat} {ln : Nat → Nat} {F : Nat → Int32} {t : Nat} {fn st : Nat → Nat} {of os rg at_ in_ ba re : Nat → Int32} (h : FI n ln F (t + 1) fn st of os rg at_ in_ ba re) (hn : n ≤ 12) (hl : ∀ f, f < n → ln f ≤ 16) (hD : ∀ f, f < n → ∀ i, i < ln f → ∃ d : Nat, d < 6 ∧ F (96 * f + 6 * i + 1) = nI d) (v : Int32) :
    ∃ (st' : Nat → Nat) (os' rg' re' : Nat → Int32), f_X2_leaveCall v (nI (t + 1)) F of os rg = some (nI t, os', rg') ∧ f_X8_giveBack v (nI (t + 1)) ba re = some (nI t, re') ∧ ∀ at' : Nat → Int32, (∀ k, k < t → at' k = at_ k) → FI n ln F t fn st' of os' rg' at' in_ ba re' := by
  obtain ⟨h1, h2, h3, h4, h5⟩ := h
  unfold f_X2_leaveCall f_X8_giveBack
  rw [nI_pred]
  cases t with
  | zero =>
    refine ⟨st, os, rg, re, by rw [if_pos (by decide)], by rw [if_pos (by decide)], fun at' _ => ⟨by omega, fun k hk => absurd hk (Nat.not_lt_zero k), fun k hk => by omega, fun k hk => by omega, fun q hq => by omega⟩⟩
  | succ t =>
    obtain ⟨a, b, c, d, e⟩ := h2 t (by omega)
    obtain ⟨a4, b4, c4⟩ := h4 t (by omega)
    have hlt := hl (fn t) c
    obtain ⟨r, hr, er⟩ := hD (fn t) c (st t) b4
    refine ⟨nup st t (st t + 1), upd os t (nI (st t + 1)), upd rg (6 * t + r) v, upd re (6 * t + r) v, ?_, ?_, fun at' ha => ⟨by omega, fun k hk => ?_, fun k hk => ?_, fun k hk => ?_, fun q hq => q_updE (h5 q (by omega))⟩⟩
    · unfold f_X2_finish
      rw [if_neg (nI_nle (by omega) (by omega)), nI_pred, q_bind (q_rd (by omega) (by omega)), a, q_bind (q_rd (by omega) (by omega)), d, q_bind (show f_X4_fieldOf (nI (fn t)) (nI (st t)) 1 F = _ from q_fieldOf (w := 1) (by omega) (by omega) (by omega)), er, q_6m, nI_add, q_bind (q_wr (by omega) (by omega)), nI_1, q_bind (q_wr (by omega) (by omega))]
      rfl
    · rw [if_neg (nI_nle (by omega) (by omega)), nI_pred, q_bind (q_rd (by omega) (by omega)), c4, er, q_m6, nI_add, q_bind (q_wr (by omega) (by omega))]
    · obtain ⟨a', b', c', d', e'⟩ := h2 k (by omega)
      by_cases hkt : k = t
      · subst hkt; rw [q_upd_s, nup_s]; exact ⟨a', b', c', rfl, by omega⟩
      · rw [q_upd_n hkt, nup_n hkt]; exact ⟨a', b', c', d', e'⟩
    · obtain rfl : k = t := by omega
      rw [nup_s, ha k (by omega)]; exact a4
    · rw [nup_n (by omega), ha k (by omega)]; exact h4 k (by omega)
