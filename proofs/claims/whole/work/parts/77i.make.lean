/-! PURE 23: the new program, made on both sides alike -/
def MI (n : Nat) (ln : Nat → Nat) (ct F : Nat → Int32) (K : Nat) (G A : Nat → Int32) : Prop := ∀ f, f < n → ∀ i, i < ln f → (16 * f + i < K → ct (17 * f) ≠ 0 → WS n G (96 * f + 6 * i) ∧ ∀ w, w < 6 → A (96 * f + 6 * i + w) = G (96 * f + 6 * i + w)) ∧ (K ≤ 16 * f + i → ∀ w, w < 6 → G (96 * f + 6 * i + w) = F (96 * f + 6 * i + w))
theorem q_17m (f : Nat) : nI f * 17 = nI (17 * f) := by rw [show (17 : Int32) = nI 17 from rfl, pk_mul, Nat.mul_comm]
theorem q_m17 (f : Nat) : (17 : Int32) * nI f = nI (17 * f) := by rw [show (17 : Int32) = nI 17 from rfl, pk_mul]
theorem q_make {n : Nat} {ln pn : Nat → Nat} {F : Nat → Int32} {e : Nat} {en pc ls par len now tab : Nat → Int32} (hW : WP n pn ln pc ls F e en) (hR : RP n ln pn F e en par len now tab) (hn : n ≤ 12) (he : e ≤ 4) {N : Nat} (hN : 20000 ≤ N) {ct an nu ct' an' nu' : Nat → Int32} (hK : KE n ct an nu ct' an' nu') (hS : Sol n ln pn F e en (kC ct an nu)) (hB : Bel n ln pn F e en (kC ct an nu)) (hct : B01 204 ct) (x1 own code news : Int32) (first nlen anew oa ou : Nat → Int32) :
    ∃ (ls2 F2 nlen2 anew2 : Nat → Int32) (c : Int32) (nl : Nat → Nat), f_X3_makeNewProgram N (nI n) (nI e) ls F en ct an nu = some (ls2, F2) ∧ f_X1_countReached N (nI n) ct = some c ∧ f_X8_analyse_118 N x1 own (nI e) first tab N 0 0 code (nI n) 1 news par len nlen now anew ct' an' nu' oa ou = some (c, code, nI n, 1, news, par, len, nlen2, now, anew2, ct', an', nu', oa, ou) ∧ WP n pn nl pc ls2 F2 e en ∧ (∀ f, f < n → nlen2 f = nI (nl f) ∧ (nl f = ln f ∨ (nl f = 0 ∧ ∀ p, p ≤ ln f → ct' (17 * f + p) = 0))) ∧ ∀ f, f < n → ∀ i, i < nl f → ∀ w, w < 6 → anew2 (96 * f + 6 * i + w) = F2 (96 * f + 6 * i + w) := by
  have hl : ∀ f, f < n → ln f ≤ 16 := fun f hf => (hW.1 f hf).2.2.2
  have hcf : ∀ f, f < n → ct' (17 * f) = ct (17 * f) := fun f hf => ((hK (17 * f) (by omega)).1).symm
  have reach : ∀ f, f < n → f_X1_isReached (nI f) ct = some (ct (17 * f)) := fun f hf => by
    unfold f_X1_isReached
    rw [q_17m, q_bind (q_rd (by omega) (by omega)), q_bind (q_zr (hct _ (by omega)))]
  obtain ⟨nl, enl⟩ : ∃ nl : Nat → Nat, ∀ f, nl f = if ct (17 * f) = 0 then 0 else ln f := ⟨_, fun _ => rfl⟩
  -- one function that is come to
  have inner : ∀ (k2 : Int32 → (Nat → Int32) → (Nat → Int32) → Option ((Nat → Int32) × (Nat → Int32))) (k118 : Int32 → Int32 → Int32 → Int32 → Int32 → Int32 → (Nat → Int32) → (Nat → Int32) → (Nat → Int32) → (Nat → Int32) → (Nat → Int32) → (Nat → Int32) → (Nat → Int32) → (Nat → Int32) → (Nat → Int32) → (Nat → Int32) → Option (Int32 × Int32 × Int32 × Int32 × Int32 × (Nat → Int32) × (Nat → Int32) × (Nat → Int32) × (Nat → Int32) × (Nat → Int32) × (Nat → Int32) × (Nat → Int32) × (Nat → Int32) × (Nat → Int32) × (Nat → Int32))) (f : Nat) (c : Int32) (ls1 nl1 : Nat → Int32), f < n → ls1 f = nI (ln f) → nl1 f = nI (ln f) → ∀ (j i m m' : Nat) (G A : Nat → Int32), i + j = ln f → MI n ln ct F (16 * f + i) G A → ∃ G' A', MI n ln ct F (16 * (f + 1)) G' A' ∧ f_X3_makeNewProgram_26 N k2 (nI n) (nI e) en ct an nu (m + 1 + j) (nI f) (nI i) ls1 G = k2 (nI (f + 1)) ls1 G' ∧ f_X8_analyse_177 N k118 x1 own (nI e) first tab (m' + 1 + j) c (nI f) (nI i) code (nI n) 1 news par len nl1 now A ct' an' nu' oa ou = k118 c (nI (f + 1)) code (nI n) 1 news par len nl1 now A' ct' an' nu' oa ou := by
    intro k2 k118 f c ls1 nl1 hf hls1 hnl1 j
    have hlf := hl f hf
    induction j with
    | zero =>
      intro i m m' G A hi hM
      refine ⟨G, A, fun g hg b hb => ⟨fun h1 h2 => (hM g hg b hb).1 ?_ h2, fun h1 => (hM g hg b hb).2 (by omega)⟩, ?_, ?_⟩
      · have := hl g hg
        by_cases hgf : g = f
        · subst hgf; omega
        · omega
      · rw [show m + 1 + 0 = m + 1 from rfl, f_X3_makeNewProgram_26, q_bind (q_rd (by omega) (by omega)), hls1, if_pos (nI_le (by omega) (by omega)), nI_1]
      · rw [show m' + 1 + 0 = m' + 1 from rfl, f_X8_analyse_177, q_bind (q_rd (by omega) (by omega)), hnl1, if_pos (nI_le (by omega) (by omega)), nI_1]
    | succ j ih =>
      intro i m m' G A hi hM
      obtain ⟨G1, A1, r1, r2, r3, r4, r5⟩ := q_renew (f := f) (i := i) (G := G) (anew := A) hW hn he hN hK hf (by omega) hls1 (fun w hw => (hM f hf i (by omega)).2 (by omega) w hw) (fun w hw => hR.2.1 f hf i (by omega) w hw) hR.2.2
      obtain ⟨G2, A2, s1, s2, s3⟩ := ih (i + 1) m m' G1 A1 (by omega) (fun g hg b hb => by
        have hlg := hl g hg
        by_cases hgb : g = f ∧ b = i
        · obtain ⟨rfl, rfl⟩ := hgb
          exact ⟨fun _ _ => ⟨r5, r3⟩, fun h => by omega⟩
        · have hne : 16 * g + b ≠ 16 * f + i := fun h => hgb ⟨by omega, by omega⟩
          have off : ∀ w, w < 6 → 96 * g + 6 * b + w < 96 * f + 6 * i ∨ 96 * f + 6 * i + 6 ≤ 96 * g + 6 * b + w := fun w hw => by omega
          refine ⟨fun h1 h2 => ?_, fun h1 w hw => ?_⟩
          · obtain ⟨x, y⟩ := (hM g hg b hb).1 (by omega) h2
            exact ⟨x.tr (Nat.le_refl n) (fun w hw => (r4 _ (off w hw)).1), fun w hw => by rw [(r4 _ (off w hw)).1, (r4 _ (off w hw)).2]; exact y w hw⟩
          · rw [(r4 _ (off w hw)).1]; exact (hM g hg b hb).2 (by omega) w hw)
      refine ⟨G2, A2, s1, ?_, ?_⟩
      · rw [show m + 1 + (j + 1) = m + 1 + j + 1 from rfl, f_X3_makeNewProgram_26, q_bind (q_rd (by omega) (by omega)), hls1, if_neg (nI_ge (by omega) (by omega)), q_bind r1, nI_1]
        exact s2
      · rw [show m' + 1 + (j + 1) = m' + 1 + j + 1 from rfl, f_X8_analyse_177, q_bind (q_rd (by omega) (by omega)), hnl1, if_neg (nI_ge (by omega) (by omega)), q_bind r2, nI_1]
        exact s3
  have outer : ∀ (j f m m' m'' : Nat) (c : Int32) (ls1 nl1 G A : Nat → Int32), f + j = n → (∀ k, k < f → ls1 k = nI (nl k) ∧ nl1 k = nI (nl k)) → (∀ k, f ≤ k → k < n → ls1 k = nI (ln k)) → MI n ln ct F (16 * f) G A → ∃ (c2 : Int32) (ls2 nl2 G2 A2 : Nat → Int32), (∀ k, k < n → ls2 k = nI (nl k) ∧ nl2 k = nI (nl k)) ∧ MI n ln ct F (16 * n) G2 A2 ∧ f_X3_makeNewProgram_2 N (nI n) (nI e) en ct an nu (m + 1 + j) (nI f) ls1 G = some (ls2, G2) ∧ f_X1_countReached_4 N (nI n) ct (m' + 1 + j) c (nI f) = some c2 ∧ f_X8_analyse_118 N x1 own (nI e) first tab (m'' + 1 + j) c (nI f) code (nI n) 1 news par len nl1 now A ct' an' nu' oa ou = some (c2, code, nI n, 1, news, par, len, nl2, now, A2, ct', an', nu', oa, ou) := by
    intro j
    induction j with
    | zero =>
      intro f m m' m'' c ls1 nl1 G A hf h1 h2 hM
      obtain rfl : f = n := by omega
      exact ⟨c, ls1, nl1, G, A, h1, hM, by rw [show m + 1 + 0 = m + 1 from rfl, f_X3_makeNewProgram_2, if_pos (nI_le (by omega) (by omega))], by rw [show m' + 1 + 0 = m' + 1 from rfl, f_X1_countReached_4, if_pos (nI_le (by omega) (by omega))], by rw [show m'' + 1 + 0 = m'' + 1 from rfl, f_X8_analyse_118, if_pos (nI_le (by omega) (by omega))]⟩
    | succ j ih =>
      intro f m m' m'' c ls1 nl1 G A hf h1 h2 hM
      have hfn : f < n := by omega
      have hlf := hl f hfn
      have m8 : g_rd 204 ct' (nI (17 * f)) = some (ct (17 * f)) := by rw [q_rd (by omega) (by omega), hcf f hfn]
      by_cases hc : ct (17 * f) = 0
      · have nlf : nl f = 0 := by rw [enl, if_pos hc]
        obtain ⟨c2, ls2, nl2, G2, A2, a1, a2, a3, a4, a5⟩ := ih (f + 1) m m' m'' c (upd ls1 f 0) (upd nl1 f 0) G A (by omega) (fun k hk => by
          by_cases hkf : k = f
          · subst hkf; rw [q_upd_s, q_upd_s, nlf]; exact ⟨rfl, rfl⟩
          · rw [q_upd_n hkf, q_upd_n hkf]; exact h1 k (by omega)) (fun k hk hk' => by rw [q_upd_n (by omega)]; exact h2 k (by omega) hk') (fun g hg b hb => by
          have hlg := hl g hg
          refine ⟨fun x1 x2 => (hM g hg b hb).1 ?_ x2, fun x1 => (hM g hg b hb).2 (by omega)⟩
          by_cases hgf : g = f
          · subst hgf; exact absurd hc x2
          · omega)
        refine ⟨c2, ls2, nl2, G2, A2, a1, a2, ?_, ?_, ?_⟩
        · rw [show m + 1 + (j + 1) = m + 1 + j + 1 from rfl, f_X3_makeNewProgram_2, if_neg (nI_ge (by omega) (by omega)), q_bind (reach f hfn), if_pos hc, q_bind (q_wr (by omega) (by omega)), nI_1]
          exact a3
        · rw [show m' + 1 + (j + 1) = m' + 1 + j + 1 from rfl, f_X1_countReached_4, if_neg (nI_ge (by omega) (by omega)), q_bind (reach f hfn), if_pos hc, nI_1]
          exact a4
        · rw [show m'' + 1 + (j + 1) = m'' + 1 + j + 1 from rfl, f_X8_analyse_118, if_neg (nI_ge (by omega) (by omega)), q_m17, q_bind m8, if_pos hc]
          unfold f_X8_analyse_153
          rw [q_bind (q_wr (n := 12) (f := nl1) (by omega) (by omega)), q_m17, q_bind m8, if_pos hc, Int32.add_zero]
          obtain ⟨M, rfl⟩ : ∃ M, N = M + 1 := ⟨N - 1, by omega⟩
          rw [f_X8_analyse_177, q_bind (q_rd (n := 12) (by omega) (by omega)), q_upd_s, if_pos (show (0 : Int32) ≤ 0 by decide), nI_1]
          exact a5
      · have nlf : nl f = ln f := by rw [enl, if_neg hc]
        have lf1 : g_rd 12 len (nI f) = some (nI (ln f)) := by rw [q_rd (by omega) (by omega), (hR.1 f hfn).2]
        obtain ⟨G1, A1, b1, b2, b3⟩ := inner (f_X3_makeNewProgram_2 N (nI n) (nI e) en ct an nu (m + 1 + j)) (f_X8_analyse_118 N x1 own (nI e) first tab (m'' + 1 + j)) f (c + 1) ls1 (upd nl1 f (nI (ln f))) hfn (h2 f (by omega) hfn) q_upd_s (ln f) 0 (N - ln f - 1) (N - ln f - 1) G A (by omega) hM
        rw [show N - ln f - 1 + 1 + ln f = N by omega] at b2 b3
        obtain ⟨c2, ls2, nl2, G2, A2, a1, a2, a3, a4, a5⟩ := ih (f + 1) m m' m'' (c + 1) ls1 (upd nl1 f (nI (ln f))) G1 A1 (by omega) (fun k hk => by
          by_cases hkf : k = f
          · subst hkf; rw [q_upd_s, nlf]; exact ⟨h2 k (by omega) hfn, rfl⟩
          · rw [q_upd_n hkf]; exact h1 k (by omega)) (fun k hk hk' => h2 k (by omega) hk') b1
        refine ⟨c2, ls2, nl2, G2, A2, a1, a2, ?_, ?_, ?_⟩
        · rw [show m + 1 + (j + 1) = m + 1 + j + 1 from rfl, f_X3_makeNewProgram_2, if_neg (nI_ge (by omega) (by omega)), q_bind (reach f hfn), if_neg hc]
          exact b2.trans a3
        · rw [show m' + 1 + (j + 1) = m' + 1 + j + 1 from rfl, f_X1_countReached_4, if_neg (nI_ge (by omega) (by omega)), q_bind (reach f hfn), if_neg hc, nI_1]
          exact a4
        · rw [show m'' + 1 + (j + 1) = m'' + 1 + j + 1 from rfl, f_X8_analyse_118, if_neg (nI_ge (by omega) (by omega)), q_m17, q_bind m8, if_neg hc, q_bind lf1]
          unfold f_X8_analyse_153
          rw [q_bind (q_wr (n := 12) (f := nl1) (by omega) (by omega)), q_m17, q_bind m8, if_neg hc]
          exact b3.trans a5
  obtain ⟨c2, ls2, nl2, G2, A2, a1, a2, a3, a4, a5⟩ := outer n 0 (N - n - 1) (N - n - 1) (N - n - 1) 0 ls nlen F anew (by omega) (fun k hk => absurd hk (Nat.not_lt_zero k)) (fun k _ hk => (hW.1 k hk).2.2.1) (fun f hf i hi => ⟨fun h => by omega, fun _ _ _ => rfl⟩)
  rw [show N - n - 1 + 1 + n = N by omega] at a3 a4 a5
  have live : ∀ f, f < n → ∀ i, i < nl f → i < ln f ∧ ct (17 * f) ≠ 0 := fun f hf i hi => by
    rw [enl] at hi
    by_cases hc : ct (17 * f) = 0
    · rw [if_pos hc] at hi; omega
    · rw [if_neg hc] at hi; exact ⟨hi, hc⟩
  refine ⟨ls2, G2, nl2, A2, c2, nl, a3, a4, a5, ⟨fun f hf => ?_, hW.2.1, fun f hf i hi => ?_, hW.2.2.2⟩, fun f hf => ⟨(a1 f hf).2, ?_⟩, fun f hf i hi w hw => ?_⟩
  · obtain ⟨x1, x2, x3, x4⟩ := hW.1 f hf
    refine ⟨x1, x2, (a1 f hf).1, ?_⟩
    rw [enl]
    by_cases hc : ct (17 * f) = 0
    · rw [if_pos hc]; omega
    · rw [if_neg hc]; exact x4
  · obtain ⟨y1, y2⟩ := live f hf i hi
    have := hl f hf
    exact ((a2 f hf i y1).1 (by omega) y2).1
  · by_cases hc : ct (17 * f) = 0
    · refine Or.inr ⟨by rw [enl, if_pos hc], fun p hp => ?_⟩
      have := hl f hf
      rw [← (hK (17 * f + p) (by omega)).1]
      refine Classical.byContradiction (fun hne => ?_)
      exact kC_t.mp (Sol_reach hS hB hl hf (by omega) (kC_t.mpr hne)) hc
    · exact Or.inl (by rw [enl, if_neg hc])
  · obtain ⟨y1, y2⟩ := live f hf i hi
    have := hl f hf
    exact ((a2 f hf i y1).1 (by omega) y2).2 w hw
