/-! PURE 24: the analysis with its copies, on both sides alike -/
theorem WP_congr {n e : Nat} {pn ln : Nat → Nat} {pc ls F en pc' ls' F' en' : Nat → Int32} (h : WP n pn ln pc ls F e en) (h1 : ∀ f, f < n → pc' f = pc f ∧ ls' f = ls f) (h2 : ∀ x, x < 96 * n → F' x = F x) (h3 : ∀ j, j < e → en' j = en j) : WP n pn ln pc' ls' F' e en' :=
  ⟨fun f hf => by rw [(h1 f hf).1, (h1 f hf).2]; exact h.1 f hf, h.2.1, fun f hf i hi => (h.2.2.1 f hf i hi).congr (fun w hw => h2 _ (by have := (h.1 f hf).2.2.2; omega)), fun j hj => by rw [h3 j hj]; exact h.2.2.2 j hj⟩
theorem q_cp0 {k : Nat} (hk : k < 2 ^ 31) {f g : Nat → Int32} : ∃ h, g_cp k f (nI 0) k g (nI 0) (nI k) = some h ∧ ∀ x, x < k → h x = f x := by
  refine ⟨va_cpy f g 0 0 k, ?_, fun x hx => by rw [pk_cpy_in (by omega) (by omega), show 0 + (x - 0) = x by omega]⟩
  unfold g_cp
  rw [nI_clamp (by omega), nI_clamp hk, if_neg]
  intro h
  rcases h with h | h | h | h | h
  · exact nI_pos (by omega) h
  · exact nI_pos (by omega) h
  · exact nI_pos hk h
  · omega
  · omega
theorem q_like (a b c d : Int32) (pc ls F en pc0 ls0 F0 en0 : Nat → Int32) : ∃ (p l G n : Nat → Int32), f_X4_becomeLike a b pc ls F en c d pc0 ls0 F0 en0 = some (c, d, p, l, G, n) ∧ (∀ x, x < 12 → p x = pc0 x ∧ l x = ls0 x) ∧ (∀ x, x < 1152 → G x = F0 x) ∧ ∀ x, x < 4 → n x = en0 x := by
  obtain ⟨p, p1, p2⟩ := q_cp0 (k := 12) (by omega) (f := pc0) (g := pc)
  obtain ⟨l, l1, l2⟩ := q_cp0 (k := 12) (by omega) (f := ls0) (g := ls)
  obtain ⟨G, g1, g2⟩ := q_cp0 (k := 1152) (by omega) (f := F0) (g := F)
  obtain ⟨n, n1, n2⟩ := q_cp0 (k := 4) (by omega) (f := en0) (g := en)
  refine ⟨p, l, G, n, ?_, fun x hx => ⟨p2 x hx, l2 x hx⟩, g2, n2⟩
  unfold f_X4_becomeLike
  rw [q_bind (show g_cp 12 pc0 0 12 pc 0 12 = some p from p1), q_bind (show g_cp 12 ls0 0 12 ls 0 12 = some l from l1), q_bind (show g_cp 1152 F0 0 1152 F 0 1152 = some G from g1), q_bind (show g_cp 4 en0 0 4 en 0 4 = some n from n1)]
theorem q_stop {n : Nat} {ln pn : Nat → Nat} {F : Nat → Int32} {e : Nat} {en pc ls par len now tab : Nat → Int32} (hW : WP n pn ln pc ls F e en) (hR : RP n ln pn F e en par len now tab) (h0 : 0 < n) (hn : n ≤ 12) (he : e ≤ 4) {N : Nat} (hN : 20000 ≤ N) {ct an nu ct' an' nu' : Nat → Int32} (hK : KE n ct an nu ct' an' nu') (hS : Sol n ln pn F e en (kC ct an nu)) (hB : Bel n ln pn F e en (kC ct an nu)) (hct : B01 204 ct) (han : B01 1224 an) (hD : DI n ct' an' nu') (x1 own code news : Int32) (first nlen anew oa ou : Nat → Int32) :
    ∃ (ls2 F2 nlen2 anew2 : Nat → Int32) (c : Int32), f_X3_makeNewProgram N (nI n) (nI e) ls F en ct an nu = some (ls2, F2) ∧ f_X1_countReached N (nI n) ct = some c ∧ f_X8_analyse_118 N x1 own (nI e) first tab N 0 0 code (nI n) 1 news par len nlen now anew ct' an' nu' oa ou = some (c, code, nI n, 1, news, par, len, nlen2, now, anew2, ct', an', nu', oa, ou) ∧ RA (nI n) (nI e) pc ls2 F2 en ct an nu (nI n) (nI e) par len nlen2 anew2 tab ct' an' nu' := by
  obtain ⟨ls2, F2, nlen2, anew2, c, nl, m1, m2, m3, m4, m5, m6⟩ := q_make hW hR hn he hN hK hS hB hct x1 own code news first nlen anew oa ou
  refine ⟨ls2, F2, nlen2, anew2, c, m1, m2, m3, n, e, pn, ln, nl, h0, hn, he, rfl, rfl, rfl, rfl, m4, fun f hf => ⟨(hR.1 f hf).1, (m5 f hf).1, (hR.1 f hf).2, (hW.1 f hf).2.2.2, (m5 f hf).2⟩, m6, hR.2.2, fun f hf p hp => ?_⟩
  have hl := (hW.1 f hf).2.2.2
  obtain ⟨k1, k2⟩ := hK (17 * f + p) (by omega)
  refine ⟨k1, fun hm r hr => ?_⟩
  have kv := k2 (by rw [k1]; exact hm) r hr
  have ee : an (6 * (17 * f + p) + r) = an' (6 * (17 * f + p) + r) := by
    unfold kV at kv
    rcases han (6 * (17 * f + p) + r) (by omega) with a | a
    · rcases hD.2.1 (6 * (17 * f + p) + r) (by omega) with b | b
      · rw [a, b]
      · rw [if_pos a, if_neg (by rw [b]; decide)] at kv; cases kv
    · rcases hD.2.1 (6 * (17 * f + p) + r) (by omega) with b | b
      · rw [if_neg (by rw [a]; decide), if_pos b] at kv; cases kv
      · rw [a, b]
  refine ⟨ee, fun h => hD.2.2 _ (by omega) h, fun h => ?_⟩
  unfold kV at kv
  rw [if_pos (ee.trans h), if_pos h] at kv
  exact Option.some.inj kv
theorem q_anal {own copies e : Nat} (ho : 0 < own) (ho6 : own ≤ 6) (hc6 : copies ≤ 6) (he : e ≤ 4) {N : Nat} (hN : 20000 ≤ N) (en tab first b3 b4 b5 b6 : Nat → Int32) (b1 b2 ta code known : Int32) : ∀ (j t m m' : Nat) (pn ln : Nat → Nat) (pc ls F par len now ct an nu ct' an' nu' ra rn iw wt nlen anew oa ou : Nat → Int32) (news : Int32), t + j = copies → WP (own + t) pn ln pc ls F e en → RP (own + t) ln pn F e en par len now tab → KE (own + t) ct an nu ct' an' nu' → Sol (own + t) ln pn F e en (kC ct an nu) → Bel (own + t) ln pn F e en (kC ct an nu) → B01 204 ct → B01 1224 an → DI (own + t) ct' an' nu' → B01 6 ra → (∀ k, k < 204 → iw k = 0) → B01 6 oa →
    ∃ (c news2 : Int32) (n2 : Nat) (pc2 ls2 F2 ct2 an2 nu2 ra2 rn2 iw2 wt2 par2 len2 nlen2 now2 anew2 ct2' an2' nu2' oa2 ou2 : Nat → Int32), f_X7_analyse_61 N (nI copies) b1 b2 b3 b4 b5 b6 (m + 1 + j) (nI t) ta (nI (own + t)) (nI e) pc ls F en ct an nu 0 ra rn iw wt = some (.inl (c, 1, nI n2, nI e, pc2, ls2, F2, en, ct2, an2, nu2, 0, ra2, rn2, iw2, wt2)) ∧ f_X8_analyse_82 N (nI copies) (nI own) (nI e) first tab (m' + 1 + j) code (nI (own + t)) known news par len nlen now anew ct' an' nu' oa ou = some (c, code, nI n2, 1, news2, par2, len2, nlen2, now2, anew2, ct2', an2', nu2', oa2, ou2) ∧ RA (nI n2) (nI e) pc2 ls2 F2 en ct2 an2 nu2 (nI n2) (nI e) par2 len2 nlen2 anew2 tab ct2' an2' nu2' ∧ B01 204 ct2 ∧ B01 1224 an2 ∧ B01 6 ra2 ∧ (∀ k, k < 204 → iw2 k = 0) ∧ B01 204 ct2' ∧ B01 1224 an2' ∧ B01 6 oa2 ∧ ∀ k, k < own → par2 k = par k ∧ len2 k = len k := by
  intro j
  induction j with
  | zero =>
    intro t m m' pn ln pc ls F par len now ct an nu ct' an' nu' ra rn iw wt nlen anew oa ou news ht hW hR hK hS hB hct han hD hra hiw hoa
    obtain ⟨ls2, F2, nlen2, anew2, c, m1, m2, m3, m4⟩ := q_stop hW hR (by omega) (by omega) he hN hK hS hB hct han hD (nI copies) (nI own) code news first nlen anew oa ou
    refine ⟨c, news, own + t, pc, ls2, F2, ct, an, nu, ra, rn, iw, wt, par, len, nlen2, now, anew2, ct', an', nu', oa, ou, ?_, ?_, m4, hct, han, hra, hiw, hD.1, hD.2.1, hoa, fun k hk => ⟨rfl, rfl⟩⟩
    · rw [show m + 1 + 0 = m + 1 from rfl, f_X7_analyse_61, if_pos (nI_le (by omega) (by omega)), q_bind m1, q_bind m2]
    · rw [show m' + 1 + 0 = m' + 1 from rfl, f_X8_analyse_82, nI_add, if_pos (nI_le (by omega) (by omega))]
      exact m3
  | succ j ih =>
    intro t m m' pn ln pc ls F par len now ct an nu ct' an' nu' ra rn iw wt nlen anew oa ou news ht hW hR hK hS hB hct han hD hra hiw hoa
    have e16 : (16 : Int32) * nI (own + t) = nI (16 * (own + t)) := by rw [show (16 : Int32) = nI 16 from rfl, pk_mul]
    have c0 : f_X7_analyse_61 N (nI copies) b1 b2 b3 b4 b5 b6 (m + 1 + (j + 1)) (nI t) ta (nI (own + t)) (nI e) pc ls F en ct an nu 0 ra rn iw wt = (f_X3_copyForSpecialCall N (nI (own + t)) pc ls F ct an nu).bind (fun o4 => if o4.1 = 0 then (f_X3_makeNewProgram N o4.2.1 (nI e) o4.2.2.2.1 o4.2.2.2.2 en ct an nu).bind (fun o6 => (f_X1_countReached N o4.2.1 ct).bind (fun o7 => some (.inl (o7, 1, o4.2.1, (nI e), o4.2.2.1, o6.1, o6.2, en, ct, an, nu, 0, ra, rn, iw, wt)))) else (f_X0_find N 0 (nI e) o4.2.2.1 o4.2.2.2.1 o4.2.2.2.2 en ct an nu ra rn iw wt).bind (fun o8 => f_X7_analyse_61 N (nI copies) b1 b2 b3 b4 b5 b6 (m + 1 + j) (nI (t + 1)) ta o4.2.1 (nI e) o4.2.2.1 o4.2.2.2.1 o4.2.2.2.2 en o8.2.1 o8.2.2.1 o8.2.2.2.1 o8.1 o8.2.2.2.2.1 o8.2.2.2.2.2.1 o8.2.2.2.2.2.2.1 o8.2.2.2.2.2.2.2)) := by
      rw [show m + 1 + (j + 1) = m + 1 + j + 1 from rfl, f_X7_analyse_61, if_neg (nI_ge (by omega) (by omega)), nI_1]
    have r0 : f_X8_analyse_82 N (nI copies) (nI own) (nI e) first tab (m' + 1 + (j + 1)) code (nI (own + t)) known news par len nlen now anew ct' an' nu' oa ou = (f_X8_specialises N (nI (own + t)) par len now ct' an' nu').bind (fun o12 => if o12.1 = 0 then f_X8_analyse_118 N (nI copies) (nI own) (nI e) first tab N 0 0 code o12.2.1 1 news o12.2.2.1 o12.2.2.2.1 nlen o12.2.2.2.2 anew ct' an' nu' oa ou else (f_X8_learn N o12.2.1 (nI e) news o12.2.2.1 o12.2.2.2.1 o12.2.2.2.2 tab ct' an' nu' oa ou).bind (fun o14 => f_X8_analyse_82 N (nI copies) (nI own) (nI e) first tab (m' + 1 + j) code o12.2.1 known o14.1 o12.2.2.1 o12.2.2.2.1 nlen o12.2.2.2.2 anew o14.2.1 o14.2.2.1 o14.2.2.2.1 o14.2.2.2.2.1 o14.2.2.2.2.2)) := by
      rw [show m' + 1 + (j + 1) = m' + 1 + j + 1 from rfl, f_X8_analyse_82, nI_add, if_neg (nI_ge (by omega) (by omega))]
    rcases q_first hW hR (by omega) hN hK hS with ⟨p1, p2⟩ | ⟨f, i, g, d, hf, hi, hg0, hg, hd, e0, e1, e2, hc, hu, p1, p2⟩
    · have cs : f_X3_copyForSpecialCall N (nI (own + t)) pc ls F ct an nu = some (0, nI (own + t), pc, ls, F) := by
        unfold f_X3_copyForSpecialCall; rw [q_bind p1, if_pos rfl]
      have rs : f_X8_specialises N (nI (own + t)) par len now ct' an' nu' = some (0, nI (own + t), par, len, now) := by
        rw [p2]; unfold f_X8_specialises_27; rw [e16, if_pos rfl]
      obtain ⟨ls2, F2, nlen2, anew2, c, m1, m2, m3, m4⟩ := q_stop hW hR (by omega) (by omega) he hN hK hS hB hct han hD (nI copies) (nI own) code news first nlen anew oa ou
      refine ⟨c, news, own + t, pc, ls2, F2, ct, an, nu, ra, rn, iw, wt, par, len, nlen2, now, anew2, ct', an', nu', oa, ou, ?_, ?_, m4, hct, han, hra, hiw, hD.1, hD.2.1, hoa, fun k hk => ⟨rfl, rfl⟩⟩
      · rw [c0, q_bind cs, if_pos rfl]
        show (f_X3_makeNewProgram N (nI (own + t)) (nI e) ls F en ct an nu).bind _ = _
        rw [q_bind m1]
        show (f_X1_countReached N (nI (own + t)) ct).bind _ = _
        rw [q_bind m2]
      · rw [r0, q_bind rs, if_pos rfl]
        exact m3
    · have hl := (hW.1 f hf).2.2.2
      obtain ⟨pn2, ln2, pc2, ls2, F2, par2, len2, now2, x1, x2, hW2, hR2, x3⟩ := q_copy hW hR (by omega) hN hK hf hi hg0 hg e0 e2 hc hu
      have cs : f_X3_copyForSpecialCall N (nI (own + t)) pc ls F ct an nu = some (1, nI (own + t + 1), pc2, ls2, F2) := by
        unfold f_X3_copyForSpecialCall
        rw [q_bind p1, if_neg (fun q => by
          have := nI_pos' (n := 16 * f + i) (by omega)
          rw [q] at this; exact absurd this (by decide)), q_bind (q_dv16 (by omega)), q_bind (q_rm16 (by omega)), show (16 * f + i) / 16 = f by omega, show (16 * f + i) % 16 = i by omega, q_bind x1]
      have rs : f_X8_specialises N (nI (own + t)) par len now ct' an' nu' = some (1, nI (own + t + 1), par2, len2, now2) := p2.trans x2
      obtain ⟨ct3, an3, nu3, ra3, rn3, iw3, wt3, f1, f2, f3, f4, f5, f6, f7⟩ := q_findC hW2 (by omega) (by omega) he hN ct nu rn wt han hra hiw
      obtain ⟨ct3', an3', nu3', oa3, ou3, l1, l2, l3, l4, l5⟩ := q_learnR hW2 hR2 (by omega) (by omega) he hN news nu' ou hD.1 hD.2.1 hoa
      obtain ⟨c, news2, n2, pc4, ls4, F4, ct4, an4, nu4, ra4, rn4, iw4, wt4, par4, len4, nlen4, now4, anew4, ct4', an4', nu4', oa4, ou4, y1, y2, y3, y4, y5, y6, y7, y8, y9, y10, y11⟩ := ih (t + 1) m m' pn2 ln2 pc2 ls2 F2 par2 len2 now2 ct3 an3 nu3 ct3' an3' nu3' ra3 rn3 iw3 wt3 nlen anew oa3 ou3 0 (by omega) hW2 hR2 (KE_of (by omega) f3 l3.1 f6 f7 l4 l5) f6 f7 f3 f4 l3 f2 f5 l2
      refine ⟨c, news2, n2, pc4, ls4, F4, ct4, an4, nu4, ra4, rn4, iw4, wt4, par4, len4, nlen4, now4, anew4, ct4', an4', nu4', oa4, ou4, ?_, ?_, y3, y4, y5, y6, y7, y8, y9, y10, fun k hk => ⟨(y11 k hk).1.trans (x3 k (by omega)).1, (y11 k hk).2.trans (x3 k (by omega)).2⟩⟩
      · rw [c0, q_bind cs, if_neg (show ¬ (1 : Int32) = 0 by decide)]
        show (f_X0_find N 0 (nI e) pc2 ls2 F2 en ct an nu ra rn iw wt).bind _ = _
        rw [q_bind f1]
        exact y1
      · rw [r0, q_bind rs, if_neg (show ¬ (1 : Int32) = 0 by decide)]
        show (f_X8_learn N (nI (own + t + 1)) (nI e) news par2 len2 now2 tab ct' an' nu' oa ou).bind _ = _
        rw [q_bind l1]
        exact y2
/-- the reference takes its program -/
theorem q_a49 {own : Nat} (ho6 : own ≤ 6) (N : Nat) (x1 te : Int32) (first tab : Nat → Int32) (code count known news : Int32) (par len nlen anew ct' an' nu' oa ou : Nat → Int32) : ∀ (j x m : Nat) (now : Nat → Int32), x + j = 96 * own → (∀ y, y < x → now y = first y) → ∃ now', (∀ y, y < 96 * own → now' y = first y) ∧ f_X8_analyse_49 N x1 (nI own) te first tab (m + 1 + j) (nI x) code count known news par len nlen now anew ct' an' nu' oa ou = (f_X8_learn N count te news par len now' tab ct' an' nu' oa ou).bind (fun o16 => f_X8_analyse_82 N x1 (nI own) te first tab N code count known o16.1 par len nlen now' anew o16.2.1 o16.2.2.1 o16.2.2.2.1 o16.2.2.2.2.1 o16.2.2.2.2.2) := by
  have e96 : (96 : Int32) * nI own = nI (96 * own) := by rw [show (96 : Int32) = nI 96 from rfl, pk_mul]
  intro j
  induction j with
  | zero =>
    intro x m now hx h1
    obtain rfl : x = 96 * own := by omega
    exact ⟨now, h1, by rw [show m + 1 + 0 = m + 1 from rfl, f_X8_analyse_49, e96, if_pos (nI_le (by omega) (by omega))]⟩
  | succ j ih =>
    intro x m now hx h1
    obtain ⟨now', a, b⟩ := ih (x + 1) m (upd now x (first x)) (by omega) (fun y hy => by
      by_cases e : y = x
      · subst e; exact q_upd_s
      · rw [q_upd_n e]; exact h1 y (by omega))
    refine ⟨now', a, ?_⟩
    rw [show m + 1 + (j + 1) = m + 1 + j + 1 from rfl, f_X8_analyse_49, e96, if_neg (nI_ge (by omega) (by omega)), q_bind (q_rd (n := 576) (by omega) (by omega)), q_bind (q_wr (n := 1152) (by omega) (by omega)), nI_1]
    exact b
