/-! PURE 6: run, one statement -/
theorem q_perf {x1 : Int32} {n : Nat} {ln : Nat → Nat} {F len nlen first anew : Nat → Int32} (hP : QP x1 n ln F len nlen first anew) {f i op dd t : Nat} (hf : f < n) (hi : i < ln f) (hl : ln f ≤ 16) (ho : op ≤ 12) {re : Nat → Int32} {a' b' : Int32} (e0 : F (96 * f + 6 * i) = nI op) (e1 : F (96 * f + 6 * i + 1) = nI dd)
    (hA : (usesN op = 0 ∧ a' = 0) ∨ (0 < usesN op ∧ f_X8_valueOf (F (96 * f + 6 * i + 3)) (nI (t + 1)) re = some a')) (hB : (usesN op ≤ 1 ∧ b' = 0) ∨ (1 < usesN op ∧ f_X8_valueOf (F (96 * f + 6 * i + 4)) (nI (t + 1)) re = some b')) (N : Nat) (te gi ta sw : Int32) (par tab minp at_ in_ ba ou ca la di : Nat → Int32) :
    f_X8_perform N x1 (nI (96 * f + 6 * i)) te gi (nI (t + 1)) ta sw par first anew tab minp at_ in_ ba re ou ca la di = f_X8_perform_159 N x1 (nI (96 * f + 6 * i)) te gi par first anew tab minp (nI op) (nI (6 * t + dd)) (F (96 * f + 6 * i + 2)) a' b' (nI (t + 1)) ta sw at_ in_ ba re ou ca la di := by
  obtain ⟨u1, _, u3⟩ := q_uses op ho
  have s1 : nI (96 * f + 6 * i) + 1 = nI (96 * f + 6 * i + 1) := nI_add _ 1
  have s2 : nI (96 * f + 6 * i) + 2 = nI (96 * f + 6 * i + 2) := nI_add _ 2
  have s3 : nI (96 * f + 6 * i) + 3 = nI (96 * f + 6 * i + 3) := nI_add _ 3
  have s4 : nI (96 * f + 6 * i) + 4 = nI (96 * f + 6 * i + 4) := nI_add _ 4
  have last : f_X8_perform_118 N x1 (nI (96 * f + 6 * i)) te gi par first anew tab minp (nI op) (nI (6 * t + dd)) (F (96 * f + 6 * i + 2)) a' (nI (t + 1)) ta sw at_ in_ ba re ou ca la di = f_X8_perform_159 N x1 (nI (96 * f + 6 * i)) te gi par first anew tab minp (nI op) (nI (6 * t + dd)) (F (96 * f + 6 * i + 2)) a' b' (nI (t + 1)) ta sw at_ in_ ba re ou ca la di := by
    unfold f_X8_perform_118
    rw [q_bind u1, s4]
    rcases hB with ⟨h, rfl⟩ | ⟨h, hb⟩
    · rw [if_pos (show nI (usesN op) ≤ 1 from nI_le (b := 1) h (by omega))]
    · rw [if_neg (show ¬ nI (usesN op) ≤ 1 from nI_ge (a := 1) h (by omega)), q_src hP hf hi hl (w := 4) (by omega) rfl, q_bind hb]
  unfold f_X8_perform
  rw [q_src hP hf hi hl (w := 0) (p := 96 * f + 6 * i) (by omega) rfl, e0]
  unfold f_X8_perform_19
  rw [s1, q_src hP hf hi hl (w := 1) (by omega) rfl, e1, nI_pred, q_m6]
  unfold f_X8_perform_52
  rw [s2, q_src hP hf hi hl (w := 2) (by omega) rfl, nI_add]
  unfold f_X8_perform_78
  rw [q_bind u1, s3]
  rcases hA with ⟨h, rfl⟩ | ⟨h, ha⟩
  · rw [if_pos (show nI (usesN op) ≤ 0 from nI_le (b := 0) (by omega) (by omega))]; exact last
  · rw [if_neg (nI_nle h (by omega)), q_src hP hf hi hl (w := 3) (by omega) rfl, q_bind ha]; exact last
def TyI (sh : Nat) (uc : Int32) (ov cc lv df : Nat → Int32) (sw : Int32) (ou ca la di : Nat → Int32) : Prop := sh ≤ 40 ∧ uc = nI sh ∧ sw = nI sh ∧ (∀ j, j < sh → ov j = ou j) ∧ TI cc lv df ca la di
theorem q_step {x1 : Int32} {n : Nat} {ln : Nat → Nat} {F len nlen first anew : Nat → Int32} (hP : QP x1 n ln F len nlen first anew) {pn : Nat → Nat} {pc ls : Nat → Int32} {e : Nat} {en : Nat → Int32} (hW : WP n pn ln pc ls F e en) (he : e ≤ 4) {par tab : Nat → Int32} (hpar : ∀ f, f < n → par f = nI (pn f)) (htab : ∀ j, j < e → tab j = en j) {g : Nat} (hg : g ≤ 12) {inp minp : Nat → Int32} (hin : ∀ j, j < g → inp j = minp j) {N : Nat} (hN : 20000 ≤ N)
    {t : Nat} {fn st : Nat → Nat} {of os rg at_ in_ ba re : Nat → Int32} (hF : FI n ln F (t + 1) fn st of os rg at_ in_ ba re) (hi : st t < ln (fn t)) {tk : Nat} (htk : tk < 3000) {sh : Nat} {uc sw : Int32} {ov cc lv df ou ca la di : Nat → Int32} (hT : TyI sh uc ov cc lv df sw ou ca la di) :
    ∃ (v : Int32) (d' tk' sh' : Nat) (uc' sw' : Int32) (ov' cc' lv' df' ou' ca' la' di' of' os' rg' at' in' ba' re' : Nat → Int32) (fn' st' : Nat → Nat),
      f_X2_doStatement N (nI (fn t)) (nI (st t)) (nI t) (nI g) (nI (min tk g)) (nI (t + 1)) (nI e) pc F en uc ov cc lv df inp of os rg = some (v, nI (min tk' g), nI d', uc', ov', cc', lv', df', of', os', rg') ∧
      f_X8_perform N x1 (nI (96 * fn t + 6 * st t)) (nI e) (nI g) (nI (t + 1)) (nI tk) sw par first anew tab minp at_ in_ ba re ou ca la di = some (v, nI d', nI tk', sw', at', in', ba', re', ou', ca', la', di') ∧
      TyI sh' uc' ov' cc' lv' df' sw' ou' ca' la' di' ∧ (v = 0 ∨ (v = 1 ∧ d' ≤ t + 1 + 1 ∧ tk' ≤ tk + 1 ∧ FI n ln F d' fn' st' of' os' rg' at' in' ba' re')) := by
  have hn := hP.le
  obtain ⟨hd, hfr, hat, hbel, hrg⟩ := id hF
  obtain ⟨_, _, hfn, _, hst⟩ := hfr t (by omega)
  obtain ⟨hf', hpn3, _, hl16⟩ := hW.1 (fn t) hfn
  have hat' := hat t rfl
  obtain ⟨f, ef⟩ : ∃ f, f = fn t := ⟨_, rfl⟩
  obtain ⟨i, ei⟩ : ∃ i, i = st t := ⟨_, rfl⟩
  rw [← ef] at hi hfn hf' hpn3 hl16 ⊢
  rw [← ei] at hi hst hat' ⊢
  obtain ⟨op, dd, hop, hdd, e0, e1, hu, h78, h10, h11⟩ := hW.2.2.1 f hfn i hi
  obtain ⟨av, ha1, ha2⟩ := q_val (t := t) (by omega) (F (96 * f + 6 * i + 3)) (rg := rg) (re := re) hrg
  obtain ⟨bv, hb1, hb2⟩ := q_val (t := t) (by omega) (F (96 * f + 6 * i + 4)) (rg := rg) (re := re) hrg
  have hfin : ∀ w : Int32, f_X2_finish (nI f) (nI i) (nI t) w F os rg = some (1, upd os t (nI (i + 1)), upd rg (6 * t + dd) w) := fun w => by
    unfold f_X2_finish
    rw [q_bind (show f_X4_fieldOf (nI f) (nI i) 1 F = _ from q_fieldOf (w := 1) (by omega) (by omega) (by omega)), e1, q_6m, nI_add, q_bind (q_wr (by omega) (by omega)), nI_1, q_bind (q_wr (by omega) (by omega))]
  have hX : f_X4_fieldOf (nI f) (nI i) 2 F = some (F (96 * f + 6 * i + 2)) := q_fieldOf (w := 2) (by omega) (by omega) (by omega)
  have hB : f_X4_fieldOf (nI f) (nI i) 4 F = some (F (96 * f + 6 * i + 4)) := q_fieldOf (w := 4) (by omega) (by omega) (by omega)
  have z1 : g_zr 1 = some 1 := q_zr (Or.inr rfl)
  have z0 : g_zr 0 = some 0 := q_zr (Or.inl rfl)
  have hA3 : 0 < usesN op → isOpd (F (96 * f + 6 * i + 3)) := fun q => hu 0 q
  have hB4 : 1 < usesN op → isOpd (F (96 * f + 6 * i + 4)) := fun q => hu 1 q
  have hupd : ∀ (r : Nat) (w : Int32) (q : Nat), q < 6 * (t + 1) → upd rg r w q = upd re r w q := fun r w q hq => q_updE (hrg q hq)
  unfold f_X2_doStatement
  rw [q_bind (show f_X4_fieldOf (nI f) (nI i) 0 F = _ from q_fieldOf (w := 0) (by omega) (by omega) (by omega)), show F (96 * f + 6 * i + 0) = nI op from e0, q_bind (show f_X4_fieldOf (nI f) (nI i) 3 F = _ from q_fieldOf (w := 3) (by omega) (by omega) (by omega)), q_bind ha1]
  have hperf := fun (a' b' : Int32) hA hB => q_perf (t := t) (re := re) (a' := a') (b' := b') hP hfn hi hl16 hop e0 e1 hA hB N (nI e) (nI g) (nI tk) sw par tab minp at_ in_ ba ou ca la di
  have hadv : FI n ln F (t + 1) fn (nup st t (i + 1)) of (upd os t (nI (i + 1))) rg (upd at_ t (nI (i + 1))) in_ ba re := hF.on (by omega) (fun k hk => q_upd_n (by omega)) q_upd_s hrg
  have hadvr : ∀ w : Int32, FI n ln F (t + 1) fn (nup st t (i + 1)) of (upd os t (nI (i + 1))) (upd rg (6 * t + dd) w) (upd at_ t (nI (i + 1))) in_ ba (upd re (6 * t + dd) w) := fun w => hF.on (by omega) (fun k hk => q_upd_n (by omega)) q_upd_s (hupd _ w)
  have hjmp : ∀ x : Nat, x ≤ 16 → FI n ln F (t + 1) fn (nup st t x) of (upd os t (nI x)) rg (upd (upd at_ t (nI (i + 1))) t (nI x)) in_ ba re := fun x hx => hF.on hx (fun k hk => by rw [q_upd_n (by omega), q_upd_n (by omega)]) q_upd_s hrg
  have hpre : ∀ {β : Type} (K : Int32 → (Nat → Int32) → Option β), ((g_rd 11 at_ (nI (t + 1) - 1)).bind fun v1 => (g_wr 11 at_ (nI (t + 1) - 1) (v1 + 1)).bind fun s2 => K v1 s2) = K (nI i) (upd at_ t (nI (i + 1))) := fun K => by
    rw [nI_pred, q_bind (q_rd (by omega) (by omega)), hat', nI_1, q_bind (q_wr (by omega) (by omega))]
  rcases (show op = 0 ∨ op = 1 ∨ op = 2 ∨ op = 3 ∨ op = 4 ∨ op = 5 ∨ op = 6 ∨ op = 7 ∨ op = 8 ∨ op = 9 ∨ op = 10 ∨ op = 11 ∨ op = 12 by omega) with rfl | rfl | rfl | rfl | rfl | rfl | rfl | rfl | rfl | rfl | rfl | rfl | rfl
  · have cC : f_X7_compute (nI 0) av bv = some av := by unfold f_X7_compute; simp only [if_neg (show ¬ nI 0 = 1 by decide), if_neg (show ¬ nI 0 = 2 by decide), if_neg (show ¬ nI 0 = 3 by decide), if_neg (show ¬ nI 0 = 4 by decide)]
    have cR : f_X8_reckon (nI 0) av 0 = some av := by unfold f_X8_reckon; simp only [if_neg (show ¬ nI 0 = 1 by decide), if_neg (show ¬ nI 0 = 2 by decide), if_neg (show ¬ nI 0 = 3 by decide), if_neg (show ¬ nI 0 = 4 by decide)]
    refine ⟨1, t + 1, tk, sh, uc, sw, ov, cc, lv, df, ou, ca, la, di, of, (upd os t (nI (i + 1))), (upd rg (6 * t + dd) av), (upd at_ t (nI (i + 1))), in_, ba, (upd re (6 * t + dd) av), fn, (nup st t (i + 1)), ?_, ?_, hT, Or.inr ⟨rfl, by omega, by omega, hadvr _⟩⟩
    · simp only [if_neg (show ¬ nI 0 = 5 by decide), if_neg (show ¬ nI 0 = 6 by decide), if_neg (show ¬ nI 0 = 7 by decide), if_neg (show ¬ nI 0 = 8 by decide), if_neg (show ¬ nI 0 = 9 by decide), if_neg (show ¬ nI 0 = 10 by decide), if_neg (show ¬ nI 0 = 11 by decide), if_neg (show ¬ nI 0 = 12 by decide)]
      rw [q_bind hB, q_bind hb1, q_bind cC, q_bind (hfin _), q_bind z1]
    · rw [hperf av 0 (Or.inr ⟨by decide, ha2 (hA3 (by decide))⟩) (Or.inl ⟨by decide, rfl⟩)]
      unfold f_X8_perform_159
      rw [nI_pred, q_bind (q_rd (by omega) (by omega)), hat', nI_1, q_bind (q_wr (by omega) (by omega))]
      simp only [if_neg (show ¬ nI 0 = 5 by decide), if_neg (show ¬ nI 0 = 6 by decide), if_neg (show ¬ nI 0 = 7 by decide), if_neg (show ¬ nI 0 = 8 by decide), if_neg (show ¬ nI 0 = 9 by decide), if_neg (show ¬ nI 0 = 10 by decide), if_neg (show ¬ nI 0 = 11 by decide), if_neg (show ¬ nI 0 = 12 by decide)]
      rw [q_bind cR, q_bind (q_wr (by omega) (by omega))]
  · have cC : f_X7_compute (nI 1) av bv = some (av + bv) := by unfold f_X7_compute; simp only [if_pos (show nI 1 = 1 by decide)]
    have cR : f_X8_reckon (nI 1) av bv = some (av + bv) := by unfold f_X8_reckon; simp only [if_pos (show nI 1 = 1 by decide)]
    refine ⟨1, t + 1, tk, sh, uc, sw, ov, cc, lv, df, ou, ca, la, di, of, (upd os t (nI (i + 1))), (upd rg (6 * t + dd) (av + bv)), (upd at_ t (nI (i + 1))), in_, ba, (upd re (6 * t + dd) (av + bv)), fn, (nup st t (i + 1)), ?_, ?_, hT, Or.inr ⟨rfl, by omega, by omega, hadvr _⟩⟩
    · simp only [if_neg (show ¬ nI 1 = 5 by decide), if_neg (show ¬ nI 1 = 6 by decide), if_neg (show ¬ nI 1 = 7 by decide), if_neg (show ¬ nI 1 = 8 by decide), if_neg (show ¬ nI 1 = 9 by decide), if_neg (show ¬ nI 1 = 10 by decide), if_neg (show ¬ nI 1 = 11 by decide), if_neg (show ¬ nI 1 = 12 by decide)]
      rw [q_bind hB, q_bind hb1, q_bind cC, q_bind (hfin _), q_bind z1]
    · rw [hperf av bv (Or.inr ⟨by decide, ha2 (hA3 (by decide))⟩) (Or.inr ⟨by decide, hb2 (hB4 (by decide))⟩)]
      unfold f_X8_perform_159
      rw [nI_pred, q_bind (q_rd (by omega) (by omega)), hat', nI_1, q_bind (q_wr (by omega) (by omega))]
      simp only [if_neg (show ¬ nI 1 = 5 by decide), if_neg (show ¬ nI 1 = 6 by decide), if_neg (show ¬ nI 1 = 7 by decide), if_neg (show ¬ nI 1 = 8 by decide), if_neg (show ¬ nI 1 = 9 by decide), if_neg (show ¬ nI 1 = 10 by decide), if_neg (show ¬ nI 1 = 11 by decide), if_neg (show ¬ nI 1 = 12 by decide)]
      rw [q_bind cR, q_bind (q_wr (by omega) (by omega))]
  · have cC : f_X7_compute (nI 2) av bv = some (av - bv) := by unfold f_X7_compute; simp only [if_neg (show ¬ nI 2 = 1 by decide), if_pos (show nI 2 = 2 by decide)]
    have cR : f_X8_reckon (nI 2) av bv = some (av - bv) := by unfold f_X8_reckon; simp only [if_neg (show ¬ nI 2 = 1 by decide), if_pos (show nI 2 = 2 by decide)]
    refine ⟨1, t + 1, tk, sh, uc, sw, ov, cc, lv, df, ou, ca, la, di, of, (upd os t (nI (i + 1))), (upd rg (6 * t + dd) (av - bv)), (upd at_ t (nI (i + 1))), in_, ba, (upd re (6 * t + dd) (av - bv)), fn, (nup st t (i + 1)), ?_, ?_, hT, Or.inr ⟨rfl, by omega, by omega, hadvr _⟩⟩
    · simp only [if_neg (show ¬ nI 2 = 5 by decide), if_neg (show ¬ nI 2 = 6 by decide), if_neg (show ¬ nI 2 = 7 by decide), if_neg (show ¬ nI 2 = 8 by decide), if_neg (show ¬ nI 2 = 9 by decide), if_neg (show ¬ nI 2 = 10 by decide), if_neg (show ¬ nI 2 = 11 by decide), if_neg (show ¬ nI 2 = 12 by decide)]
      rw [q_bind hB, q_bind hb1, q_bind cC, q_bind (hfin _), q_bind z1]
    · rw [hperf av bv (Or.inr ⟨by decide, ha2 (hA3 (by decide))⟩) (Or.inr ⟨by decide, hb2 (hB4 (by decide))⟩)]
      unfold f_X8_perform_159
      rw [nI_pred, q_bind (q_rd (by omega) (by omega)), hat', nI_1, q_bind (q_wr (by omega) (by omega))]
      simp only [if_neg (show ¬ nI 2 = 5 by decide), if_neg (show ¬ nI 2 = 6 by decide), if_neg (show ¬ nI 2 = 7 by decide), if_neg (show ¬ nI 2 = 8 by decide), if_neg (show ¬ nI 2 = 9 by decide), if_neg (show ¬ nI 2 = 10 by decide), if_neg (show ¬ nI 2 = 11 by decide), if_neg (show ¬ nI 2 = 12 by decide)]
      rw [q_bind cR, q_bind (q_wr (by omega) (by omega))]
  · have cC : f_X7_compute (nI 3) av bv = some (av * bv) := by unfold f_X7_compute; simp only [if_neg (show ¬ nI 3 = 1 by decide), if_neg (show ¬ nI 3 = 2 by decide), if_pos (show nI 3 = 3 by decide)]
    have cR : f_X8_reckon (nI 3) av bv = some (av * bv) := by unfold f_X8_reckon; simp only [if_neg (show ¬ nI 3 = 1 by decide), if_neg (show ¬ nI 3 = 2 by decide), if_pos (show nI 3 = 3 by decide)]
    refine ⟨1, t + 1, tk, sh, uc, sw, ov, cc, lv, df, ou, ca, la, di, of, (upd os t (nI (i + 1))), (upd rg (6 * t + dd) (av * bv)), (upd at_ t (nI (i + 1))), in_, ba, (upd re (6 * t + dd) (av * bv)), fn, (nup st t (i + 1)), ?_, ?_, hT, Or.inr ⟨rfl, by omega, by omega, hadvr _⟩⟩
    · simp only [if_neg (show ¬ nI 3 = 5 by decide), if_neg (show ¬ nI 3 = 6 by decide), if_neg (show ¬ nI 3 = 7 by decide), if_neg (show ¬ nI 3 = 8 by decide), if_neg (show ¬ nI 3 = 9 by decide), if_neg (show ¬ nI 3 = 10 by decide), if_neg (show ¬ nI 3 = 11 by decide), if_neg (show ¬ nI 3 = 12 by decide)]
      rw [q_bind hB, q_bind hb1, q_bind cC, q_bind (hfin _), q_bind z1]
    · rw [hperf av bv (Or.inr ⟨by decide, ha2 (hA3 (by decide))⟩) (Or.inr ⟨by decide, hb2 (hB4 (by decide))⟩)]
      unfold f_X8_perform_159
      rw [nI_pred, q_bind (q_rd (by omega) (by omega)), hat', nI_1, q_bind (q_wr (by omega) (by omega))]
      simp only [if_neg (show ¬ nI 3 = 5 by decide), if_neg (show ¬ nI 3 = 6 by decide), if_neg (show ¬ nI 3 = 7 by decide), if_neg (show ¬ nI 3 = 8 by decide), if_neg (show ¬ nI 3 = 9 by decide), if_neg (show ¬ nI 3 = 10 by decide), if_neg (show ¬ nI 3 = 11 by decide), if_neg (show ¬ nI 3 = 12 by decide)]
      rw [q_bind cR, q_bind (q_wr (by omega) (by omega))]
  · have cC : ∃ w, f_X7_compute (nI 4) av bv = some w ∧ f_X8_reckon (nI 4) av bv = some w := by
      unfold f_X7_compute f_X8_reckon
      simp only [if_neg (show ¬ nI 4 = 1 by decide), if_neg (show ¬ nI 4 = 2 by decide), if_neg (show ¬ nI 4 = 3 by decide), if_pos (show nI 4 = 4 by decide)]
      by_cases hab : bv ≤ av
      · exact ⟨0, by rw [if_pos hab], by rw [if_pos hab]⟩
      · exact ⟨1, by rw [if_neg hab], by rw [if_neg hab]⟩
    obtain ⟨w, cC, cR⟩ := cC
    refine ⟨1, t + 1, tk, sh, uc, sw, ov, cc, lv, df, ou, ca, la, di, of, (upd os t (nI (i + 1))), (upd rg (6 * t + dd) w), (upd at_ t (nI (i + 1))), in_, ba, (upd re (6 * t + dd) w), fn, (nup st t (i + 1)), ?_, ?_, hT, Or.inr ⟨rfl, by omega, by omega, hadvr _⟩⟩
    · simp only [if_neg (show ¬ nI 4 = 5 by decide), if_neg (show ¬ nI 4 = 6 by decide), if_neg (show ¬ nI 4 = 7 by decide), if_neg (show ¬ nI 4 = 8 by decide), if_neg (show ¬ nI 4 = 9 by decide), if_neg (show ¬ nI 4 = 10 by decide), if_neg (show ¬ nI 4 = 11 by decide), if_neg (show ¬ nI 4 = 12 by decide)]
      rw [q_bind hB, q_bind hb1, q_bind cC, q_bind (hfin _), q_bind z1]
    · rw [hperf av bv (Or.inr ⟨by decide, ha2 (hA3 (by decide))⟩) (Or.inr ⟨by decide, hb2 (hB4 (by decide))⟩)]
      unfold f_X8_perform_159
      rw [nI_pred, q_bind (q_rd (by omega) (by omega)), hat', nI_1, q_bind (q_wr (by omega) (by omega))]
      simp only [if_neg (show ¬ nI 4 = 5 by decide), if_neg (show ¬ nI 4 = 6 by decide), if_neg (show ¬ nI 4 = 7 by decide), if_neg (show ¬ nI 4 = 8 by decide), if_neg (show ¬ nI 4 = 9 by decide), if_neg (show ¬ nI 4 = 10 by decide), if_neg (show ¬ nI 4 = 11 by decide), if_neg (show ¬ nI 4 = 12 by decide)]
      rw [q_bind cR, q_bind (q_wr (by omega) (by omega))]
  · by_cases hgt : g ≤ tk
    · refine ⟨1, t + 1, tk + 1, sh, uc, sw, ov, cc, lv, df, ou, ca, la, di, of, (upd os t (nI (i + 1))), (upd rg (6 * t + dd) 0), (upd at_ t (nI (i + 1))), in_, ba, (upd re (6 * t + dd) 0), fn, (nup st t (i + 1)), ?_, ?_, hT, Or.inr ⟨rfl, by omega, by omega, hadvr _⟩⟩
      · simp only [if_pos (show nI 5 = 5 by decide), if_neg (show ¬ nI 5 = 6 by decide), if_neg (show ¬ nI 5 = 7 by decide), if_neg (show ¬ nI 5 = 8 by decide), if_neg (show ¬ nI 5 = 9 by decide), if_neg (show ¬ nI 5 = 10 by decide), if_neg (show ¬ nI 5 = 11 by decide), if_neg (show ¬ nI 5 = 12 by decide)]
        unfold f_X2_nextInput
        rw [if_neg (nI_nlt (by omega) (by omega)), q_bind rfl, q_bind (hfin _), q_bind z1, show min (tk + 1) g = min tk g by omega]
      · rw [hperf 0 0 (Or.inl ⟨rfl, rfl⟩) (Or.inl ⟨by decide, rfl⟩)]
        unfold f_X8_perform_159
        rw [nI_pred, q_bind (q_rd (by omega) (by omega)), hat', nI_1, q_bind (q_wr (by omega) (by omega))]
        simp only [if_pos (show nI 5 = 5 by decide), if_neg (show ¬ nI 5 = 6 by decide), if_neg (show ¬ nI 5 = 7 by decide), if_neg (show ¬ nI 5 = 8 by decide), if_neg (show ¬ nI 5 = 9 by decide), if_neg (show ¬ nI 5 = 10 by decide), if_neg (show ¬ nI 5 = 11 by decide), if_neg (show ¬ nI 5 = 12 by decide)]
        rw [if_pos (nI_le hgt (by omega)), q_bind (q_wr (by omega) (by omega)), nI_1]
    · refine ⟨1, t + 1, tk + 1, sh, uc, sw, ov, cc, lv, df, ou, ca, la, di, of, (upd os t (nI (i + 1))), (upd rg (6 * t + dd) (inp tk)), (upd at_ t (nI (i + 1))), in_, ba, (upd re (6 * t + dd) (inp tk)), fn, (nup st t (i + 1)), ?_, ?_, hT, Or.inr ⟨rfl, by omega, by omega, hadvr _⟩⟩
      · simp only [if_pos (show nI 5 = 5 by decide), if_neg (show ¬ nI 5 = 6 by decide), if_neg (show ¬ nI 5 = 7 by decide), if_neg (show ¬ nI 5 = 8 by decide), if_neg (show ¬ nI 5 = 9 by decide), if_neg (show ¬ nI 5 = 10 by decide), if_neg (show ¬ nI 5 = 11 by decide), if_neg (show ¬ nI 5 = 12 by decide)]
        unfold f_X2_nextInput
        rw [show min tk g = tk by omega, if_pos (nI_lt (by omega) (by omega)), q_bind (q_rd (by omega) (by omega)), q_bind rfl, q_bind (hfin _), q_bind z1, show min (tk + 1) g = tk + 1 by omega, ← nI_1 tk]
      · rw [hperf 0 0 (Or.inl ⟨rfl, rfl⟩) (Or.inl ⟨by decide, rfl⟩)]
        unfold f_X8_perform_159
        rw [nI_pred, q_bind (q_rd (by omega) (by omega)), hat', nI_1, q_bind (q_wr (by omega) (by omega))]
        simp only [if_pos (show nI 5 = 5 by decide), if_neg (show ¬ nI 5 = 6 by decide), if_neg (show ¬ nI 5 = 7 by decide), if_neg (show ¬ nI 5 = 8 by decide), if_neg (show ¬ nI 5 = 9 by decide), if_neg (show ¬ nI 5 = 10 by decide), if_neg (show ¬ nI 5 = 11 by decide), if_neg (show ¬ nI 5 = 12 by decide)]
        rw [if_neg (nI_ge (by omega) (by omega)), q_bind (q_rd (by omega) (by omega)), ← hin tk (by omega), q_bind (q_wr (by omega) (by omega)), nI_1]
  · obtain ⟨s1, s2, s3, s4, s5⟩ := hT
    by_cases h40 : sh = 40
    · refine ⟨0, t + 1, tk, sh, uc, sw, ov, cc, lv, df, ou, ca, la, di, of, (upd os t (nI (i + 1))), rg, (upd at_ t (nI (i + 1))), in_, ba, re, fn, st, ?_, ?_, ⟨s1, s2, s3, s4, s5⟩, Or.inl rfl⟩
      · simp only [if_neg (show ¬ nI 6 = 5 by decide), if_pos (show nI 6 = 6 by decide), if_neg (show ¬ nI 6 = 7 by decide), if_neg (show ¬ nI 6 = 8 by decide), if_neg (show ¬ nI 6 = 9 by decide), if_neg (show ¬ nI 6 = 10 by decide), if_neg (show ¬ nI 6 = 11 by decide), if_neg (show ¬ nI 6 = 12 by decide)]
        unfold f_X6_addOutput
        rw [nI_1, q_bind (q_wr (by omega) (by omega)), s2, if_neg (show ¬ nI sh < 40 from nI_nlt (b := 40) (by omega) (by omega)), q_bind rfl, q_bind z0]
      · rw [hperf av 0 (Or.inr ⟨by decide, ha2 (hA3 (by decide))⟩) (Or.inl ⟨by decide, rfl⟩)]
        unfold f_X8_perform_159
        rw [nI_pred, q_bind (q_rd (by omega) (by omega)), hat', nI_1, q_bind (q_wr (by omega) (by omega))]
        simp only [if_neg (show ¬ nI 6 = 5 by decide), if_pos (show nI 6 = 6 by decide), if_neg (show ¬ nI 6 = 7 by decide), if_neg (show ¬ nI 6 = 8 by decide), if_neg (show ¬ nI 6 = 9 by decide), if_neg (show ¬ nI 6 = 10 by decide), if_neg (show ¬ nI 6 = 11 by decide), if_neg (show ¬ nI 6 = 12 by decide)]
        rw [if_pos (show sw = 40 by rw [s3, h40]; rfl)]
    · refine ⟨1, t + 1, tk, sh + 1, (nI (sh + 1)), (nI (sh + 1)), (upd ov sh av), cc, lv, df, (upd ou sh av), ca, la, di, of, (upd os t (nI (i + 1))), rg, (upd at_ t (nI (i + 1))), in_, ba, re, fn, (nup st t (i + 1)), ?_, ?_, ⟨by omega, rfl, rfl, fun j hj => by
        by_cases hj' : j = sh
        · subst hj'; rw [q_upd_s, q_upd_s]
        · exact q_updE (s4 j (by omega)), s5⟩, Or.inr ⟨rfl, by omega, by omega, hadv⟩⟩
      · simp only [if_neg (show ¬ nI 6 = 5 by decide), if_pos (show nI 6 = 6 by decide), if_neg (show ¬ nI 6 = 7 by decide), if_neg (show ¬ nI 6 = 8 by decide), if_neg (show ¬ nI 6 = 9 by decide), if_neg (show ¬ nI 6 = 10 by decide), if_neg (show ¬ nI 6 = 11 by decide), if_neg (show ¬ nI 6 = 12 by decide)]
        unfold f_X6_addOutput
        rw [nI_1, q_bind (q_wr (by omega) (by omega)), s2, if_pos (show nI sh < 40 from nI_lt (b := 40) (by omega) (by omega)), q_bind (q_wr (by omega) (by omega)), q_bind rfl, q_bind z1, nI_1]
      · rw [hperf av 0 (Or.inr ⟨by decide, ha2 (hA3 (by decide))⟩) (Or.inl ⟨by decide, rfl⟩)]
        unfold f_X8_perform_159
        rw [nI_pred, q_bind (q_rd (by omega) (by omega)), hat', nI_1, q_bind (q_wr (by omega) (by omega))]
        simp only [if_neg (show ¬ nI 6 = 5 by decide), if_pos (show nI 6 = 6 by decide), if_neg (show ¬ nI 6 = 7 by decide), if_neg (show ¬ nI 6 = 8 by decide), if_neg (show ¬ nI 6 = 9 by decide), if_neg (show ¬ nI 6 = 10 by decide), if_neg (show ¬ nI 6 = 11 by decide), if_neg (show ¬ nI 6 = 12 by decide)]
        rw [s3, if_neg (show ¬ nI sh = 40 from fun q => h40 ((nI_eq (b := 40) (by omega) (by omega)).mp q)), q_bind (q_wr (by omega) (by omega)), nI_1]
  · obtain ⟨x, hx, ex⟩ := h78 (Or.inl rfl)
    by_cases h0 : av = 0
    · refine ⟨1, t + 1, tk, sh, uc, sw, ov, cc, lv, df, ou, ca, la, di, of, (upd os t (nI (i + 1))), rg, (upd at_ t (nI (i + 1))), in_, ba, re, fn, (nup st t (i + 1)), ?_, ?_, hT, Or.inr ⟨rfl, by omega, by omega, hadv⟩⟩
      · simp only [if_neg (show ¬ nI 7 = 5 by decide), if_neg (show ¬ nI 7 = 6 by decide), if_pos (show nI 7 = 7 by decide), if_neg (show ¬ nI 7 = 8 by decide), if_neg (show ¬ nI 7 = 9 by decide), if_neg (show ¬ nI 7 = 10 by decide), if_neg (show ¬ nI 7 = 11 by decide), if_neg (show ¬ nI 7 = 12 by decide)]
        rw [if_pos h0, nI_1, q_bind (q_wr (by omega) (by omega))]
      · rw [hperf av 0 (Or.inr ⟨by decide, ha2 (hA3 (by decide))⟩) (Or.inl ⟨by decide, rfl⟩)]
        unfold f_X8_perform_159
        rw [nI_pred, q_bind (q_rd (by omega) (by omega)), hat', nI_1, q_bind (q_wr (by omega) (by omega))]
        simp only [if_neg (show ¬ nI 7 = 5 by decide), if_neg (show ¬ nI 7 = 6 by decide), if_pos (show nI 7 = 7 by decide), if_neg (show ¬ nI 7 = 8 by decide), if_neg (show ¬ nI 7 = 9 by decide), if_neg (show ¬ nI 7 = 10 by decide), if_neg (show ¬ nI 7 = 11 by decide), if_neg (show ¬ nI 7 = 12 by decide)]
        rw [if_pos h0]
    · refine ⟨1, t + 1, tk, sh, uc, sw, ov, cc, lv, df, ou, ca, la, di, of, (upd os t (nI x)), rg, (upd (upd at_ t (nI (i + 1))) t (nI x)), in_, ba, re, fn, (nup st t x), ?_, ?_, hT, Or.inr ⟨rfl, by omega, by omega, hjmp x hx⟩⟩
      · simp only [if_neg (show ¬ nI 7 = 5 by decide), if_neg (show ¬ nI 7 = 6 by decide), if_pos (show nI 7 = 7 by decide), if_neg (show ¬ nI 7 = 8 by decide), if_neg (show ¬ nI 7 = 9 by decide), if_neg (show ¬ nI 7 = 10 by decide), if_neg (show ¬ nI 7 = 11 by decide), if_neg (show ¬ nI 7 = 12 by decide)]
        rw [if_neg h0, q_bind hX, ex, q_bind (q_wr (by omega) (by omega))]
      · rw [hperf av 0 (Or.inr ⟨by decide, ha2 (hA3 (by decide))⟩) (Or.inl ⟨by decide, rfl⟩)]
        unfold f_X8_perform_159
        rw [nI_pred, q_bind (q_rd (by omega) (by omega)), hat', nI_1, q_bind (q_wr (by omega) (by omega))]
        simp only [if_neg (show ¬ nI 7 = 5 by decide), if_neg (show ¬ nI 7 = 6 by decide), if_pos (show nI 7 = 7 by decide), if_neg (show ¬ nI 7 = 8 by decide), if_neg (show ¬ nI 7 = 9 by decide), if_neg (show ¬ nI 7 = 10 by decide), if_neg (show ¬ nI 7 = 11 by decide), if_neg (show ¬ nI 7 = 12 by decide)]
        rw [if_neg h0, ex, q_bind (q_wr (by omega) (by omega))]
  · obtain ⟨x, hx, ex⟩ := h78 (Or.inr rfl)
    refine ⟨1, t + 1, tk, sh, uc, sw, ov, cc, lv, df, ou, ca, la, di, of, (upd os t (nI x)), rg, (upd (upd at_ t (nI (i + 1))) t (nI x)), in_, ba, re, fn, (nup st t x), ?_, ?_, hT, Or.inr ⟨rfl, by omega, by omega, hjmp x hx⟩⟩
    · simp only [if_neg (show ¬ nI 8 = 5 by decide), if_neg (show ¬ nI 8 = 6 by decide), if_neg (show ¬ nI 8 = 7 by decide), if_pos (show nI 8 = 8 by decide), if_neg (show ¬ nI 8 = 9 by decide), if_neg (show ¬ nI 8 = 10 by decide), if_neg (show ¬ nI 8 = 11 by decide), if_neg (show ¬ nI 8 = 12 by decide)]
      rw [q_bind hX, ex, q_bind (q_wr (by omega) (by omega))]
    · rw [hperf 0 0 (Or.inl ⟨rfl, rfl⟩) (Or.inl ⟨by decide, rfl⟩)]
      unfold f_X8_perform_159
      rw [nI_pred, q_bind (q_rd (by omega) (by omega)), hat', nI_1, q_bind (q_wr (by omega) (by omega))]
      simp only [if_neg (show ¬ nI 8 = 5 by decide), if_neg (show ¬ nI 8 = 6 by decide), if_neg (show ¬ nI 8 = 7 by decide), if_pos (show nI 8 = 8 by decide), if_neg (show ¬ nI 8 = 9 by decide), if_neg (show ¬ nI 8 = 10 by decide), if_neg (show ¬ nI 8 = 11 by decide), if_neg (show ¬ nI 8 = 12 by decide)]
      rw [ex, q_bind (q_wr (by omega) (by omega))]
  · obtain ⟨st', os', rg', re', l1, l2, l3⟩ := q_leave hF hn (fun f hf => (hW.1 f hf).2.2.2) (fun f hf i hi => let ⟨_, d, _, h2, _, h4, _⟩ := hW.2.2.1 f hf i hi; ⟨d, h2, h4⟩) av
    refine ⟨1, t, tk, sh, uc, sw, ov, cc, lv, df, ou, ca, la, di, of, os', rg', (upd at_ t (nI (i + 1))), in_, ba, re', fn, st', ?_, ?_, hT, Or.inr ⟨rfl, by omega, by omega, l3 _ (fun k hk => q_upd_n (by omega))⟩⟩
    · simp only [if_neg (show ¬ nI 9 = 5 by decide), if_neg (show ¬ nI 9 = 6 by decide), if_neg (show ¬ nI 9 = 7 by decide), if_neg (show ¬ nI 9 = 8 by decide), if_pos (show nI 9 = 9 by decide), if_neg (show ¬ nI 9 = 10 by decide), if_neg (show ¬ nI 9 = 11 by decide), if_neg (show ¬ nI 9 = 12 by decide)]
      rw [q_bind l1]
    · rw [hperf av 0 (Or.inr ⟨by decide, ha2 (hA3 (by decide))⟩) (Or.inl ⟨by decide, rfl⟩)]
      unfold f_X8_perform_159
      rw [nI_pred, q_bind (q_rd (by omega) (by omega)), hat', nI_1, q_bind (q_wr (by omega) (by omega))]
      simp only [if_neg (show ¬ nI 9 = 5 by decide), if_neg (show ¬ nI 9 = 6 by decide), if_neg (show ¬ nI 9 = 7 by decide), if_neg (show ¬ nI 9 = 8 by decide), if_pos (show nI 9 = 9 by decide), if_neg (show ¬ nI 9 = 10 by decide), if_neg (show ¬ nI 9 = 11 by decide), if_neg (show ¬ nI 9 = 12 by decide)]
      rw [q_bind l2]
  · obtain ⟨c, hc, ec⟩ := h10 rfl
    obtain ⟨c1, c2, _, _⟩ := hW.1 c hc
    rcases q_enter hP hfn hi hl16 (t := t) (by omega) hc c1 (hpar c hc) c2 (fun j hj => hu j (show j < 3 by omega)) hN of os (upd at_ t (nI (i + 1))) in_ ba hT.2.2.2.2 hrg with ⟨_, r1, r2⟩ | ⟨h10', cc', lv', df', ca', la', di', rg', re', T', hr', r1, r2⟩
    · refine ⟨0, t + 1, tk, sh, uc, sw, ov, cc, lv, df, ou, ca, la, di, of, os, rg, (upd at_ t (nI (i + 1))), in_, ba, re, fn, st, ?_, ?_, hT, Or.inl rfl⟩
      · simp only [if_neg (show ¬ nI 10 = 5 by decide), if_neg (show ¬ nI 10 = 6 by decide), if_neg (show ¬ nI 10 = 7 by decide), if_neg (show ¬ nI 10 = 8 by decide), if_neg (show ¬ nI 10 = 9 by decide), if_pos (show nI 10 = 10 by decide), if_neg (show ¬ nI 10 = 11 by decide), if_neg (show ¬ nI 10 = 12 by decide)]
        rw [q_bind hX, ec, q_bind r1, q_bind z0]
      · rw [hperf av bv (Or.inr ⟨by decide, ha2 (hA3 (by decide))⟩) (Or.inr ⟨by decide, hb2 (hB4 (by decide))⟩)]
        unfold f_X8_perform_159
        rw [nI_pred, q_bind (q_rd (by omega) (by omega)), hat', nI_1, q_bind (q_wr (by omega) (by omega))]
        simp only [if_neg (show ¬ nI 10 = 5 by decide), if_neg (show ¬ nI 10 = 6 by decide), if_neg (show ¬ nI 10 = 7 by decide), if_neg (show ¬ nI 10 = 8 by decide), if_neg (show ¬ nI 10 = 9 by decide), if_pos (show nI 10 = 10 by decide), if_neg (show ¬ nI 10 = 11 by decide), if_neg (show ¬ nI 10 = 12 by decide)]
        rw [ec, q_bind r2, q_bind z0]
    · have hpu := hF.push h10' (by rw [← ef, ← ei]; exact hi) hc hr'
      rw [← ef, ← ei] at hpu
      refine ⟨1, t + 1 + 1, tk, sh, uc, sw, ov, cc', lv', df', ou, ca', la', di', (upd of (t + 1) (nI c)), (upd os (t + 1) 0), rg', (upd (upd at_ t (nI (i + 1))) (t + 1) 0), (upd in_ (t + 1) (nI c)), (upd ba (t + 1) (F (96 * f + 6 * i + 1))), re', (nup fn (t + 1) c), (nup st (t + 1) 0), ?_, ?_, ⟨hT.1, hT.2.1, hT.2.2.1, hT.2.2.2.1, T'⟩, Or.inr ⟨rfl, by omega, by omega, hpu⟩⟩
      · simp only [if_neg (show ¬ nI 10 = 5 by decide), if_neg (show ¬ nI 10 = 6 by decide), if_neg (show ¬ nI 10 = 7 by decide), if_neg (show ¬ nI 10 = 8 by decide), if_neg (show ¬ nI 10 = 9 by decide), if_pos (show nI 10 = 10 by decide), if_neg (show ¬ nI 10 = 11 by decide), if_neg (show ¬ nI 10 = 12 by decide)]
        rw [q_bind hX, ec, q_bind r1, q_bind z1]
      · rw [hperf av bv (Or.inr ⟨by decide, ha2 (hA3 (by decide))⟩) (Or.inr ⟨by decide, hb2 (hB4 (by decide))⟩)]
        unfold f_X8_perform_159
        rw [nI_pred, q_bind (q_rd (by omega) (by omega)), hat', nI_1, q_bind (q_wr (by omega) (by omega))]
        simp only [if_neg (show ¬ nI 10 = 5 by decide), if_neg (show ¬ nI 10 = 6 by decide), if_neg (show ¬ nI 10 = 7 by decide), if_neg (show ¬ nI 10 = 8 by decide), if_neg (show ¬ nI 10 = 9 by decide), if_pos (show nI 10 = 10 by decide), if_neg (show ¬ nI 10 = 11 by decide), if_neg (show ¬ nI 10 = 12 by decide)]
        rw [ec, q_bind r2, q_bind z1]
  · obtain ⟨xv, hx1, hx2⟩ := q_val (t := t) (by omega) (F (96 * f + 6 * i + 2)) (rg := rg) (re := re) hrg
    by_cases he0 : e = 0
    · have hE : f_X4_entryFor xv (nI e) en = some (-1) := by unfold f_X4_entryFor; rw [he0, if_pos (by decide)]
      refine ⟨1, t + 1, tk, sh, uc, sw, ov, cc, lv, df, ou, ca, la, di, of, (upd os t (nI (i + 1))), (upd rg (6 * t + dd) 0), (upd at_ t (nI (i + 1))), in_, ba, (upd re (6 * t + dd) 0), fn, (nup st t (i + 1)), ?_, ?_, hT, Or.inr ⟨rfl, by omega, by omega, hadvr _⟩⟩
      · simp only [if_neg (show ¬ nI 11 = 5 by decide), if_neg (show ¬ nI 11 = 6 by decide), if_neg (show ¬ nI 11 = 7 by decide), if_neg (show ¬ nI 11 = 8 by decide), if_neg (show ¬ nI 11 = 9 by decide), if_neg (show ¬ nI 11 = 10 by decide), if_pos (show nI 11 = 11 by decide), if_neg (show ¬ nI 11 = 12 by decide)]
        unfold f_X2_doTableCall
        rw [q_bind hX, q_bind hx1, q_bind hE, if_pos rfl, q_bind (hfin _), q_bind z1, q_bind rfl, q_bind z1]
      · rw [hperf av bv (Or.inr ⟨by decide, ha2 (hA3 (by decide))⟩) (Or.inr ⟨by decide, hb2 (hB4 (by decide))⟩)]
        unfold f_X8_perform_159
        rw [nI_pred, q_bind (q_rd (by omega) (by omega)), hat', nI_1, q_bind (q_wr (by omega) (by omega))]
        simp only [if_neg (show ¬ nI 11 = 5 by decide), if_neg (show ¬ nI 11 = 6 by decide), if_neg (show ¬ nI 11 = 7 by decide), if_neg (show ¬ nI 11 = 8 by decide), if_neg (show ¬ nI 11 = 9 by decide), if_neg (show ¬ nI 11 = 10 by decide), if_pos (show nI 11 = 11 by decide), if_neg (show ¬ nI 11 = 12 by decide)]
        rw [if_pos (show nI e ≤ 0 by rw [he0]; decide), q_bind (q_wr (by omega) (by omega))]
    obtain ⟨j, hj, j1, j2⟩ := q_entry (by omega) he htab xv
    obtain ⟨c, hc, ec⟩ := hW.2.2.2 j hj
    rw [ec] at j1 j2
    have hne : ¬ nI c = -1 := fun q => by
      have := congrArg Int32.toInt q
      rw [nI_toInt (by omega), show ((-1 : Int32)).toInt = -1 by decide] at this; omega
    obtain ⟨c1, c2, _, _⟩ := hW.1 c hc
    rcases q_enter hP hfn hi hl16 (t := t) (by omega) hc c1 (hpar c hc) c2 (fun j hj => hu j (show j < 3 by omega)) hN of os (upd at_ t (nI (i + 1))) in_ ba hT.2.2.2.2 hrg with ⟨_, r1, r2⟩ | ⟨h10', cc', lv', df', ca', la', di', rg', re', T', hr', r1, r2⟩
    · refine ⟨0, t + 1, tk, sh, uc, sw, ov, cc, lv, df, ou, ca, la, di, of, os, rg, (upd at_ t (nI (i + 1))), in_, ba, re, fn, st, ?_, ?_, hT, Or.inl rfl⟩
      · simp only [if_neg (show ¬ nI 11 = 5 by decide), if_neg (show ¬ nI 11 = 6 by decide), if_neg (show ¬ nI 11 = 7 by decide), if_neg (show ¬ nI 11 = 8 by decide), if_neg (show ¬ nI 11 = 9 by decide), if_neg (show ¬ nI 11 = 10 by decide), if_pos (show nI 11 = 11 by decide), if_neg (show ¬ nI 11 = 12 by decide)]
        unfold f_X2_doTableCall
        rw [q_bind hX, q_bind hx1, q_bind j1, if_neg hne, q_bind r1, q_bind z0, q_bind rfl, q_bind z0]
      · rw [hperf av bv (Or.inr ⟨by decide, ha2 (hA3 (by decide))⟩) (Or.inr ⟨by decide, hb2 (hB4 (by decide))⟩)]
        unfold f_X8_perform_159
        rw [nI_pred, q_bind (q_rd (by omega) (by omega)), hat', nI_1, q_bind (q_wr (by omega) (by omega))]
        simp only [if_neg (show ¬ nI 11 = 5 by decide), if_neg (show ¬ nI 11 = 6 by decide), if_neg (show ¬ nI 11 = 7 by decide), if_neg (show ¬ nI 11 = 8 by decide), if_neg (show ¬ nI 11 = 9 by decide), if_neg (show ¬ nI 11 = 10 by decide), if_pos (show nI 11 = 11 by decide), if_neg (show ¬ nI 11 = 12 by decide)]
        rw [if_neg (nI_nle (by omega) (by omega)), q_bind (hx2 (h11 rfl)), q_bind j2, q_bind r2, q_bind z0]
    · have hpu := hF.push h10' (by rw [← ef, ← ei]; exact hi) hc hr'
      rw [← ef, ← ei] at hpu
      refine ⟨1, t + 1 + 1, tk, sh, uc, sw, ov, cc', lv', df', ou, ca', la', di', (upd of (t + 1) (nI c)), (upd os (t + 1) 0), rg', (upd (upd at_ t (nI (i + 1))) (t + 1) 0), (upd in_ (t + 1) (nI c)), (upd ba (t + 1) (F (96 * f + 6 * i + 1))), re', (nup fn (t + 1) c), (nup st (t + 1) 0), ?_, ?_, ⟨hT.1, hT.2.1, hT.2.2.1, hT.2.2.2.1, T'⟩, Or.inr ⟨rfl, by omega, by omega, hpu⟩⟩
      · simp only [if_neg (show ¬ nI 11 = 5 by decide), if_neg (show ¬ nI 11 = 6 by decide), if_neg (show ¬ nI 11 = 7 by decide), if_neg (show ¬ nI 11 = 8 by decide), if_neg (show ¬ nI 11 = 9 by decide), if_neg (show ¬ nI 11 = 10 by decide), if_pos (show nI 11 = 11 by decide), if_neg (show ¬ nI 11 = 12 by decide)]
        unfold f_X2_doTableCall
        rw [q_bind hX, q_bind hx1, q_bind j1, if_neg hne, q_bind r1, q_bind z1, q_bind rfl, q_bind z1]
      · rw [hperf av bv (Or.inr ⟨by decide, ha2 (hA3 (by decide))⟩) (Or.inr ⟨by decide, hb2 (hB4 (by decide))⟩)]
        unfold f_X8_perform_159
        rw [nI_pred, q_bind (q_rd (by omega) (by omega)), hat', nI_1, q_bind (q_wr (by omega) (by omega))]
        simp only [if_neg (show ¬ nI 11 = 5 by decide), if_neg (show ¬ nI 11 = 6 by decide), if_neg (show ¬ nI 11 = 7 by decide), if_neg (show ¬ nI 11 = 8 by decide), if_neg (show ¬ nI 11 = 9 by decide), if_neg (show ¬ nI 11 = 10 by decide), if_pos (show nI 11 = 11 by decide), if_neg (show ¬ nI 11 = 12 by decide)]
        rw [if_neg (nI_nle (by omega) (by omega)), q_bind (hx2 (h11 rfl)), q_bind j2, q_bind r2, q_bind z1]
  · refine ⟨1, t + 1, tk, sh, uc, sw, ov, cc, lv, df, ou, ca, la, di, of, (upd os t (nI (i + 1))), rg, (upd at_ t (nI (i + 1))), in_, ba, re, fn, (nup st t (i + 1)), ?_, ?_, hT, Or.inr ⟨rfl, by omega, by omega, hadv⟩⟩
    · simp only [if_neg (show ¬ nI 12 = 5 by decide), if_neg (show ¬ nI 12 = 6 by decide), if_neg (show ¬ nI 12 = 7 by decide), if_neg (show ¬ nI 12 = 8 by decide), if_neg (show ¬ nI 12 = 9 by decide), if_neg (show ¬ nI 12 = 10 by decide), if_neg (show ¬ nI 12 = 11 by decide), if_pos (show nI 12 = 12 by decide)]
      rw [nI_1, q_bind (q_wr (by omega) (by omega))]
    · rw [hperf 0 0 (Or.inl ⟨rfl, rfl⟩) (Or.inl ⟨by decide, rfl⟩)]
      unfold f_X8_perform_159
      rw [nI_pred, q_bind (q_rd (by omega) (by omega)), hat', nI_1, q_bind (q_wr (by omega) (by omega))]
      simp only [if_neg (show ¬ nI 12 = 5 by decide), if_neg (show ¬ nI 12 = 6 by decide), if_neg (show ¬ nI 12 = 7 by decide), if_neg (show ¬ nI 12 = 8 by decide), if_neg (show ¬ nI 12 = 9 by decide), if_neg (show ¬ nI 12 = 10 by decide), if_neg (show ¬ nI 12 = 11 by decide), if_pos (show nI 12 = 12 by decide)]
