/-! PURE 7: run, the loop and the start -/
theorem q_960 {f i : Nat} : (96 : Int32) * nI f + 6 * nI i = nI (96 * f + 6 * i) := by
  rw [show (96 : Int32) = nI 96 from rfl, show (6 : Int32) = nI 6 from rfl, pk_mul, pk_mul, nI_add]
theorem q_loop {x1 : Int32} {n : Nat} {ln : Nat → Nat} {F len nlen first anew : Nat → Int32} (hP : QP x1 n ln F len nlen first anew) {pn : Nat → Nat} {pc ls : Nat → Int32} {e : Nat} {en : Nat → Int32} (hW : WP n pn ln pc ls F e en) (he : e ≤ 4) {par tab : Nat → Int32} (hpar : ∀ f, f < n → par f = nI (pn f)) (htab : ∀ j, j < e → tab j = en j) {g : Nat} (hg : g ≤ 12) {inp minp : Nat → Int32} (hin : ∀ j, j < g → inp j = minp j) {N : Nat} (hN : 20000 ≤ N) {most : Nat} (hm : most ≤ 3000) (own known code : Int32) :
    ∀ (j r nC nR d tk sh s : Nat) (fn st : Nat → Nat) (uc sw : Int32) (ov cc lv df ou ca la di of os rg at_ in_ ba re : Nat → Int32), r + j = 6003 → j ≤ nC → j + 1 ≤ nR → FI n ln F d fn st of os rg at_ in_ ba re → r + d ≤ 2 * s + 1 → s ≤ most → tk ≤ s → TyI sh uc ov cc lv df sw ou ca la di →
      ∃ (v ir oc dc uc' de ta sw' : Int32) (sh' : Nat) (ov' cc' lv' df' ou' ca' la' di' of' os' rg' at' in' ba' re' : Nat → Int32),
        f_X2_execute_11 N (nI most) (nI g) inp (nI e) pc ls F en nC (nI r) (nI (min tk g)) (nI d) (nI s) uc ov cc lv df of os rg = some (v, ir, oc, dc, uc', ov', cc', lv', df', of', os', rg') ∧
        f_X8_run_139 N x1 (nI most) own (nI e) (nI g) known par len nlen first anew tab minp nR code (nI d) (nI s) (nI tk) sw (-1) at_ in_ ba re ou ca la di = some (v, code, de, dc, ta, sw', v, at', in', ba', re', ou', ca', la', di') ∧
        TyI sh' uc' ov' cc' lv' df' sw' ou' ca' la' di' := by
  have hn := hP.le
  intro j
  induction j with
  | zero => intro r nC nR d tk sh s fn st uc sw ov cc lv df ou ca la di of os rg at_ in_ ba re h1 h2 h3 hF h4 h5 h6 hT; omega
  | succ j ih =>
    intro r nC nR d tk sh s fn st uc sw ov cc lv df ou ca la di of os rg at_ in_ ba re h1 h2 h3 hF h4 h5 h6 hT
    obtain ⟨nC, rfl⟩ : ∃ m, nC = m + 1 := ⟨nC - 1, by omega⟩
    obtain ⟨nR, rfl⟩ : ∃ m, nR = m + 1 + 1 := ⟨nR - 2, by omega⟩
    have hend : ∀ (v de ta sw dc : Int32) (at_ in_ ba re ou ca la di : Nat → Int32), ¬ v = -1 → f_X8_run_139 N x1 (nI most) own (nI e) (nI g) known par len nlen first anew tab minp (nR + 1) code de dc ta sw v at_ in_ ba re ou ca la di = some (v, code, de, dc, ta, sw, v, at_, in_, ba, re, ou, ca, la, di) := by
      intro v de ta sw dc at_ in_ ba re ou ca la di hv
      rw [f_X8_run_139, if_neg hv]
    have hr : ¬ 6002 ≤ nI r := nI_ge (b := 6002) (by omega) (by omega)
    rw [f_X2_execute_11, if_neg hr, f_X8_run_139, if_pos rfl]
    unfold f_X8_go
    cases d with
    | zero =>
      rw [if_pos (show nI 0 ≤ 0 by decide), if_pos (show nI 0 = 0 by decide), q_bind rfl]
      exact ⟨1, _, _, _, _, _, _, _, sh, _, _, _, _, _, _, _, _, _, _, _, _, _, _, _, rfl, hend 1 _ _ _ _ _ _ _ _ _ _ _ _ (by decide), hT⟩
    | succ t =>
      obtain ⟨hd, hfr, hat, hbel, hrg⟩ := id hF
      obtain ⟨o1, o2, hfn, o3, hst⟩ := hfr t (by omega)
      have hat' := hat t rfl
      obtain ⟨w1, w2, w3, w4⟩ := hW.1 (fn t) hfn
      rw [if_neg (nI_nle (by omega) (by omega)), nI_pred, q_bind (q_rd (n := 11) (f := of) (by omega) (by omega)), o1, q_bind (q_rd (n := 11) (f := os) (by omega) (by omega)), o3, q_bind (q_rd (n := 12) (f := ls) (by omega) (by omega)), w3, if_neg (nI_ne0 (by omega) (by omega)), q_bind (q_rd (n := 11) (f := in_) (by omega) (by omega)), o2, q_bind (q_rd (n := 11) (f := at_) (by omega) (by omega)), hat', q_len hP hfn]
      unfold f_X8_go_59
      by_cases hi : st t < ln (fn t)
      · rw [if_pos (nI_lt hi (by omega)), if_pos (nI_lt hi (by omega))]
        by_cases hs : s = most
        · rw [if_neg (nI_nlt (by omega) (by omega)), if_pos (by rw [hs]), q_bind rfl]
          exact ⟨0, _, _, _, _, _, _, _, sh, _, _, _, _, _, _, _, _, _, _, _, _, _, _, _, rfl, hend 0 _ _ _ _ _ _ _ _ _ _ _ _ (by decide), hT⟩
        · rw [if_pos (nI_lt (by omega) (by omega)), if_neg (fun q => hs ((nI_eq (by omega) (by omega)).mp q)), q_960]
          obtain ⟨v, d', tk', sh', uc', sw', ov', cc', lv', df', ou', ca', la', di', of', os', rg', at', in', ba', re', fn', st', s1, s2, s3, s4⟩ := q_step hP hW he hpar htab hg hin hN hF hi (tk := tk) (by omega) hT
          rw [q_bind s1, q_bind s2]
          rcases s4 with rfl | ⟨rfl, s5, s6, s7⟩
          · rw [if_pos rfl, if_pos rfl, q_bind rfl]
            exact ⟨2, _, _, _, _, _, _, _, sh', _, _, _, _, _, _, _, _, _, _, _, _, _, _, _, rfl, hend 2 _ _ _ _ _ _ _ _ _ _ _ _ (by decide), s3⟩
          · rw [if_neg (show ¬ (1 : Int32) = 0 by decide), if_neg (show ¬ (1 : Int32) = 0 by decide), q_bind rfl, nI_1, nI_1]
            exact ih (r + 1) nC (nR + 1) d' tk' sh' (s + 1) fn' st' _ _ _ _ _ _ _ _ _ _ _ _ _ _ _ _ _ (by omega) (by omega) (by omega) s7 (by omega) (by omega) (by omega) s3
      · rw [if_neg (nI_nlt (by omega) (by omega)), if_neg (nI_nlt (by omega) (by omega))]
        obtain ⟨st', os', rg', re', l1, l2, l3⟩ := q_leave hF hn (fun f hf => (hW.1 f hf).2.2.2) (fun f hf i hi => let ⟨_, d, _, h2, _, h4, _⟩ := hW.2.2.1 f hf i hi; ⟨d, h2, h4⟩) 0
        rw [q_bind l1, q_bind l2, q_bind rfl, nI_1]
        exact ih (r + 1) nC (nR + 1) t tk sh s fn st' _ _ _ _ _ _ _ _ _ _ _ _ _ _ _ _ _ (by omega) (by omega) (by omega) (l3 at_ (fun k hk => rfl)) (by omega) h5 h6 hT
theorem q_z12 (N : Nat) (a b : Int32) (lv df : Nat → Int32) : ∀ (j k m : Nat) (cc : Nat → Int32), k + j = 12 → (∀ f, f < k → cc f = 0) → ∃ cc' : Nat → Int32, (∀ f, f < 12 → cc' f = 0) ∧ f_X6_begin_12 N (m + 1 + j) (nI k) a b cc lv df = f_X6_begin_33 N N 0 a b cc' lv df := by
  intro j
  induction j with
  | zero =>
    intro k m cc hk h
    obtain rfl : k = 12 := by omega
    exact ⟨cc, h, by rw [show m + 1 + 0 = m + 1 from rfl, f_X6_begin_12, if_pos (by decide)]⟩
  | succ j ih =>
    intro k m cc hk h
    obtain ⟨cc', a1, a2⟩ := ih (k + 1) m (upd cc k 0) (by omega) (fun f hf => by
      by_cases e : f = k
      · subst e; exact q_upd_s
      · rw [q_upd_n e]; exact h f (by omega))
    refine ⟨cc', a1, ?_⟩
    rw [show m + 1 + (j + 1) = m + 1 + j + 1 from rfl, f_X6_begin_12, if_neg (show ¬ 12 ≤ nI k from nI_ge (b := 12) (by omega) (by omega)), q_bind (q_wr (by omega) (by omega)), nI_1, a2]
theorem q_z36 (N : Nat) (a b : Int32) (cc : Nat → Int32) : ∀ (j k m : Nat) (lv df : Nat → Int32), k + j = 36 → (∀ f, f < k → lv f = 0 ∧ df f = 0) → ∃ lv' df' : Nat → Int32, (∀ f, f < 36 → lv' f = 0 ∧ df' f = 0) ∧ f_X6_begin_33 N (m + 1 + j) (nI k) a b cc lv df = some (a, b, cc, lv', df') := by
  intro j
  induction j with
  | zero =>
    intro k m lv df hk h
    obtain rfl : k = 36 := by omega
    exact ⟨lv, df, h, by rw [show m + 1 + 0 = m + 1 from rfl, f_X6_begin_33, if_pos (by decide)]⟩
  | succ j ih =>
    intro k m lv df hk h
    obtain ⟨lv', df', a1, a2⟩ := ih (k + 1) m (upd lv k 0) (upd df k 0) (by omega) (fun f hf => by
      by_cases e : f = k
      · subst e; exact ⟨q_upd_s, q_upd_s⟩
      · rw [q_upd_n e, q_upd_n e]; exact h f (by omega))
    refine ⟨lv', df', a1, ?_⟩
    rw [show m + 1 + (j + 1) = m + 1 + j + 1 from rfl, f_X6_begin_33, if_neg (show ¬ 36 ≤ nI k from nI_ge (b := 36) (by omega) (by omega)), q_bind (q_wr (by omega) (by omega)), q_bind (q_wz (by omega) (by omega) (Or.inl rfl)), nI_1, a2]
theorem q_z6 (N : Nat) (ir oc dc uc : Int32) (cc lv df of os : Nat → Int32) : ∀ (j k m : Nat) (rg : Nat → Int32), k + j = 6 → (∀ f, f < k → rg f = 0) → ∃ rg' : Nat → Int32, (∀ f, f < 6 → rg' f = 0) ∧ f_X2_begin_28 N (m + 1 + j) (nI k) ir oc dc uc cc lv df of os rg = (f_X6_addCall N 0 0 cc lv df rg').bind (fun o2 => some (ir, 1, dc, uc, o2.1, o2.2.1, o2.2.2, of, os, rg')) := by
  intro j
  induction j with
  | zero =>
    intro k m rg hk h
    obtain rfl : k = 6 := by omega
    exact ⟨rg, h, by rw [show m + 1 + 0 = m + 1 from rfl, f_X2_begin_28, if_pos (by decide)]⟩
  | succ j ih =>
    intro k m rg hk h
    obtain ⟨rg', a1, a2⟩ := ih (k + 1) m (upd rg k 0) (by omega) (fun f hf => by
      by_cases e : f = k
      · subst e; exact q_upd_s
      · rw [q_upd_n e]; exact h f (by omega))
    refine ⟨rg', a1, ?_⟩
    rw [show m + 1 + (j + 1) = m + 1 + j + 1 from rfl, f_X2_begin_28, if_neg (show ¬ 6 ≤ nI k from nI_ge (b := 6) (by omega) (by omega)), q_bind (q_wr (by omega) (by omega)), nI_1, a2]
theorem q_y6 (N : Nat) (x1 : Int32) (par first anew at_ in_ ba ca la di : Nat → Int32) : ∀ (j k m : Nat) (re : Nat → Int32), k + j = 6 → (∀ f, f < k → re f = 0) → ∃ re' : Nat → Int32, (∀ f, f < 6 → re' f = 0) ∧ f_X8_begin_14 N x1 (nI 0) (-1) par first anew (m + 1 + j) (nI k) (nI 0) at_ in_ ba re ca la di = f_X8_begin_109 N x1 (nI 0) (-1) par first anew N 0 (nI 0) at_ in_ ba re' ca la di := by
  intro j
  induction j with
  | zero =>
    intro k m re hk h
    obtain rfl : k = 6 := by omega
    exact ⟨re, h, by rw [show m + 1 + 0 = m + 1 from rfl, f_X8_begin_14, if_pos (by decide)]⟩
  | succ j ih =>
    intro k m re hk h
    obtain ⟨re', a1, a2⟩ := ih (k + 1) m (upd re (6 * 0 + k) 0) (by omega) (fun f hf => by
      by_cases e : f = 6 * 0 + k
      · subst e; exact q_upd_s
      · rw [q_upd_n e]; exact h f (by omega))
    refine ⟨re', a1, ?_⟩
    rw [show m + 1 + (j + 1) = m + 1 + j + 1 from rfl, f_X8_begin_14, if_neg (show ¬ 6 ≤ nI k from nI_ge (b := 6) (by omega) (by omega)), if_pos (by decide)]
    unfold f_X8_begin_41
    rw [if_pos rfl, q_m6, nI_add, q_bind (q_wr (by omega) (by omega)), nI_1, a2]
theorem q_y12 (N : Nat) (x1 x2 own ts gi kn : Int32) (par len nlen first anew tab minp : Nat → Int32) (co de sp ta sw oc : Int32) (at_ in_ ba re ou la di : Nat → Int32) : ∀ (j k m : Nat) (ca : Nat → Int32), k + j = 12 → (∀ f, f < k → ca f = 0) → ∃ ca' : Nat → Int32, (∀ f, f < 12 → ca' f = 0) ∧ f_X8_run_73 N x1 x2 own ts gi kn par len nlen first anew tab minp (m + 1 + j) (nI k) co de sp ta sw oc at_ in_ ba re ou ca la di = f_X8_run_94 N x1 x2 own ts gi kn par len nlen first anew tab minp N 0 co de sp ta sw oc at_ in_ ba re ou ca' la di := by
  intro j
  induction j with
  | zero =>
    intro k m ca hk h
    obtain rfl : k = 12 := by omega
    exact ⟨ca, h, by rw [show m + 1 + 0 = m + 1 from rfl, f_X8_run_73, if_pos (by decide)]⟩
  | succ j ih =>
    intro k m ca hk h
    obtain ⟨ca', a1, a2⟩ := ih (k + 1) m (upd ca k 0) (by omega) (fun f hf => by
      by_cases e : f = k
      · subst e; exact q_upd_s
      · rw [q_upd_n e]; exact h f (by omega))
    refine ⟨ca', a1, ?_⟩
    rw [show m + 1 + (j + 1) = m + 1 + j + 1 from rfl, f_X8_run_73, if_neg (show ¬ 12 ≤ nI k from nI_ge (b := 12) (by omega) (by omega)), q_bind (q_wr (by omega) (by omega)), nI_1, a2]
theorem q_y36 (N : Nat) (x1 x2 own ts gi kn : Int32) (par len nlen first anew tab minp : Nat → Int32) (co de sp ta sw oc : Int32) (at_ in_ ba re ou ca : Nat → Int32) : ∀ (j k m : Nat) (la di : Nat → Int32), k + j = 36 → (∀ f, f < k → la f = 0 ∧ di f = 0) → ∃ la' di' : Nat → Int32, (∀ f, f < 36 → la' f = 0 ∧ di' f = 0) ∧ f_X8_run_94 N x1 x2 own ts gi kn par len nlen first anew tab minp (m + 1 + j) (nI k) co de sp ta sw oc at_ in_ ba re ou ca la di = f_X8_run_94 N x1 x2 own ts gi kn par len nlen first anew tab minp (m + 1) (nI 36) co de sp ta sw oc at_ in_ ba re ou ca la' di' := by
  intro j
  induction j with
  | zero =>
    intro k m la di hk h
    obtain rfl : k = 36 := by omega
    exact ⟨la, di, h, rfl⟩
  | succ j ih =>
    intro k m la di hk h
    obtain ⟨la', di', a1, a2⟩ := ih (k + 1) m (upd la k 0) (upd di k 0) (by omega) (fun f hf => by
      by_cases e : f = k
      · subst e; exact ⟨q_upd_s, q_upd_s⟩
      · rw [q_upd_n e, q_upd_n e]; exact h f (by omega))
    refine ⟨la', di', a1, ?_⟩
    rw [show m + 1 + (j + 1) = m + 1 + j + 1 from rfl, f_X8_run_94, if_neg (show ¬ 36 ≤ nI k from nI_ge (b := 36) (by omega) (by omega)), q_bind (q_wr (by omega) (by omega)), q_bind (q_wz (by omega) (by omega) (Or.inl rfl)), nI_1, a2]
theorem q_exec {x1 : Int32} {n : Nat} {ln : Nat → Nat} {F len nlen first anew : Nat → Int32} (hP : QP x1 n ln F len nlen first anew) {pn : Nat → Nat} {pc ls : Nat → Int32} {e : Nat} {en : Nat → Int32} (hW : WP n pn ln pc ls F e en) (h0 : 0 < n) (he : e ≤ 4) {par tab : Nat → Int32} (hpar : ∀ f, f < n → par f = nI (pn f)) (htab : ∀ j, j < e → tab j = en j) {g : Nat} (hg : g ≤ 12) {inp minp : Nat → Int32} (hin : ∀ j, j < g → inp j = minp j) {N : Nat} (hN : 20000 ≤ N) {most : Nat} (hm : most ≤ 3000) (own known ir oc dc uc co de sp ta sw ot : Int32) (ov cc lv df of os rg at_ in_ ba re ou ca la di : Nat → Int32) :
      ∃ (v ir' oc' dc' uc' de' ta' sw' : Int32) (sh' : Nat) (ov' cc' lv' df' ou' ca' la' di' of' os' rg' at' in' ba' re' : Nat → Int32),
        f_X2_execute N (nI most) (nI g) ir oc dc uc ov cc lv df inp of os rg (nI e) pc ls F en = some (v, ir', oc', dc', uc', ov', cc', lv', df', of', os', rg') ∧
        f_X8_run_39 N x1 (nI most) own (nI e) (nI g) known par len nlen first anew tab minp 0 co de sp ta sw ot at_ in_ ba re ou ca la di = some (v, 0, de', dc', ta', sw', v, at', in', ba', re', ou', ca', la', di') ∧
        TyI sh' uc' ov' cc' lv' df' sw' ou' ca' la' di' := by
  have hn := hP.le
  obtain ⟨cc1, c1, c2⟩ := q_z12 N 0 0 lv df 12 0 (N - 13) cc rfl (fun f hf => absurd hf (Nat.not_lt_zero f))
  rw [show N - 13 + 1 + 12 = N by omega] at c2
  obtain ⟨lv1, df1, d1, d2⟩ := q_z36 N 0 0 cc1 36 0 (N - 37) lv df rfl (fun f hf => absurd hf (Nat.not_lt_zero f))
  rw [show N - 37 + 1 + 36 = N by omega] at d2
  obtain ⟨rg1, r1, r2⟩ := q_z6 N 0 oc 0 0 cc1 lv1 df1 (upd of 0 0) (upd os 0 0) 6 0 (N - 7) rg rfl (fun f hf => absurd hf (Nat.not_lt_zero f))
  rw [show N - 7 + 1 + 6 = N by omega] at r2
  obtain ⟨ca1, e1, e2⟩ := q_y12 N x1 (nI most) own (nI e) (nI g) known par len nlen first anew tab minp 0 0 0 0 0 ot at_ in_ ba re ou la di 12 0 (N - 13) ca rfl (fun f hf => absurd hf (Nat.not_lt_zero f))
  rw [show N - 13 + 1 + 12 = N by omega] at e2
  obtain ⟨la1, di1, f1, f2⟩ := q_y36 N x1 (nI most) own (nI e) (nI g) known par len nlen first anew tab minp 0 0 0 0 0 ot at_ in_ ba re ou ca1 36 0 (N - 37) la di rfl (fun f hf => absurd hf (Nat.not_lt_zero f))
  rw [show N - 37 + 1 + 36 = N by omega] at f2
  obtain ⟨re1, g1, g2⟩ := q_y6 N x1 par first anew at_ in_ ba ca1 la1 di1 6 0 (N - 7) re rfl (fun f hf => absurd hf (Nat.not_lt_zero f))
  rw [show N - 7 + 1 + 6 = N by omega] at g2
  have hT : TI cc1 lv1 df1 ca1 la1 di1 := ⟨fun f hf => by rw [c1 f hf, e1 f hf], fun q hq => by rw [(d1 q hq).1, (f1 q hq).1], fun q hq => by rw [(d1 q hq).2, (f1 q hq).2], fun q hq => Or.inl (f1 q hq).2⟩
  obtain ⟨cc2, lv2, df2, ca2, la2, di2, T, t1, t2⟩ := q_tally (f := 0) (d := 0) (p := pn 0) (par := par) (re := re1) (row := rg1) (by omega) (by omega) (hpar 0 h0) (hW.1 0 h0).2.1 (fun k hk => by rw [r1 _ (by omega), g1 _ (by omega)]) (fun k _ hk => g1 _ (by omega)) hT
  have eC : f_X2_begin N ir oc dc uc cc lv df of os rg = some (0, 1, 0, 0, cc2, lv2, df2, upd of 0 0, upd os 0 0, rg1) := by
    unfold f_X2_begin f_X6_begin
    rw [q_bind (show f_X6_begin_12 N N 0 0 0 cc lv df = some (0, 0, cc1, lv1, df1) from c2.trans d2), q_bind (show g_wr 11 of 0 0 = some (upd of 0 0) from q_wr (k := 0) (by omega) (by omega)), q_bind (show g_wr 11 os 0 0 = some (upd os 0 0) from q_wr (k := 0) (by omega) (by omega))]
    refine r2.trans ?_
    rw [q_bind (show f_X6_addCall N 0 0 cc1 lv1 df1 rg1 = some (cc2, lv2, df2) from t1 N (by omega))]
  have eR : f_X8_begin N x1 0 (-1) 0 par first anew at_ in_ ba re ca1 la1 di1 = some (1, 1, upd at_ 0 0, upd in_ 0 0, upd ba 0 0, re1, ca2, la2, di2) := by
    unfold f_X8_begin
    rw [if_neg (by decide)]
    refine g2.trans ?_
    rw [t2 N N x1 (-1) first anew at_ in_ ba (by omega), q_bind (q_wr (by omega) (by omega)), q_bind (q_wr (by omega) (by omega)), if_neg (by decide), q_bind (q_wr (by omega) (by omega))]
    rfl
  have hF : FI n ln F 1 (fun _ => 0) (fun _ => 0) (upd of 0 0) (upd os 0 0) rg1 (upd at_ 0 0) (upd in_ 0 0) (upd ba 0 0) re1 := by
    refine ⟨by omega, fun k hk => ?_, fun k hk => ?_, fun k hk => by omega, fun q hq => by rw [r1 q (by omega), g1 q (by omega)]⟩
    · obtain rfl : k = 0 := by omega
      exact ⟨q_upd_s, q_upd_s, h0, q_upd_s, Nat.zero_le _⟩
    · obtain rfl : k = 0 := by omega
      exact q_upd_s
  obtain ⟨v, ir', oc', dc', uc', de', ta', sw', sh', ov', cc', lv', df', ou', ca', la', di', of', os', rg', at', in', ba', re', l1, l2, l3⟩ := q_loop hP hW he hpar htab hg hin hN hm own known 0 6003 0 N N 1 0 0 0 _ _ 0 0 ov cc2 lv2 df2 ou ca2 la2 di2 _ _ _ _ _ _ _ rfl (by omega) (by omega) hF (by omega) (by omega) (by omega) ⟨by omega, rfl, rfl, fun j hj => absurd hj (Nat.not_lt_zero j), T⟩
  rw [Nat.zero_min] at l1
  refine ⟨v, ir', oc', dc', uc', de', ta', sw', sh', ov', cc', lv', df', ou', ca', la', di', of', os', rg', at', in', ba', re', ?_, ?_, l3⟩
  · unfold f_X2_execute
    rw [q_bind eC]
    exact l1
  · unfold f_X8_run_39
    rw [if_pos (by decide)]
    refine e2.trans (f2.trans ?_)
    rw [f_X8_run_94, if_pos (show 36 ≤ nI 36 by decide), q_bind eR, if_neg (show ¬ (1 : Int32) = 0 by decide)]
    exact l2
