/-! PURE 20: the copy is made, and the marks are set -/
def Mk (n : Nat) (ln : Nat → Nat) (P : Nat → Nat → Prop) (F1 G : Nat → Int32) (K : Nat) : Prop := ∀ a b w, b < 16 → w < 6 → ((w = 2 ∧ 16 * a + b < K ∧ a < n ∧ b < ln a ∧ P a b) → G (96 * a + 6 * b + w) = nI n) ∧ (¬ (w = 2 ∧ 16 * a + b < K ∧ a < n ∧ b < ln a ∧ P a b) → G (96 * a + 6 * b + w) = F1 (96 * a + 6 * b + w))
theorem Mk_0 {n : Nat} {ln : Nat → Nat} {P : Nat → Nat → Prop} {F1 : Nat → Int32} : Mk n ln P F1 F1 0 := fun a b w hb hw => ⟨fun h => by omega, fun _ => rfl⟩
theorem Mk_up {n : Nat} {ln : Nat → Nat} {P : Nat → Nat → Prop} {F1 G : Nat → Int32} {K K' : Nat} (h : Mk n ln P F1 G K) (hK : K ≤ K') (hP : ∀ a b, b < 16 → K ≤ 16 * a + b → 16 * a + b < K' → a < n → b < ln a → ¬ P a b) : Mk n ln P F1 G K' := fun a b w hb hw => by
  obtain ⟨h1, h2⟩ := h a b w hb hw
  refine ⟨fun ⟨x1, x2, x3, x4, x5⟩ => ?_, fun x => h2 (fun ⟨x1, x2, x3, x4, x5⟩ => x ⟨x1, by omega, x3, x4, x5⟩)⟩
  by_cases hk : 16 * a + b < K
  · exact h1 ⟨x1, hk, x3, x4, x5⟩
  · exact absurd x5 (hP a b hb (by omega) x2 x3 x4)
theorem Mk_put {n : Nat} {ln : Nat → Nat} {P : Nat → Nat → Prop} {F1 G : Nat → Int32} {a b : Nat} (h : Mk n ln P F1 G (16 * a + b)) (ha : a < n) (hb : b < ln a) (hb16 : b < 16) (hP : P a b) : Mk n ln P F1 (upd G (96 * a + 6 * b + 2) (nI n)) (16 * a + b + 1) := fun c d w hd hw => by
  obtain ⟨h1, h2⟩ := h c d w hd hw
  by_cases he : 96 * c + 6 * d + w = 96 * a + 6 * b + 2
  · obtain rfl : c = a := by omega
    obtain rfl : d = b := by omega
    obtain rfl : w = 2 := by omega
    exact ⟨fun _ => q_upd_s, fun x => absurd ⟨rfl, by omega, ha, hb, hP⟩ x⟩
  · rw [q_upd_n he]
    refine ⟨fun ⟨x1, x2, x3, x4, x5⟩ => h1 ⟨x1, ?_, x3, x4, x5⟩, fun x => h2 (fun ⟨x1, x2, x3, x4, x5⟩ => x ⟨x1, by omega, x3, x4, x5⟩)⟩
    omega
theorem q_cpC {n g : Nat} (hn : n < 12) (hg : g < n) {pc ls F : Nat → Int32} : f_X4_addCopyOf (nI g) (nI n) pc ls F = some (nI n, nI (n + 1), upd pc n (pc g), upd (upd ls n 0) n (ls g), va_cpy F F (96 * g) (96 * n) 96) := by
  unfold f_X4_addCopyOf
  have s0 : ∀ k, f_X4_startOf (nI k) 0 = some (nI (96 * k)) := fun k => q_start (f := k) (i := 0)
  rw [q_bind (q_rd (by omega) (by omega)), q_bind (q_addF hn)]
  show (g_rd 12 (upd ls n 0) (nI g)).bind _ = _
  rw [q_bind (q_rd (by omega) (by omega)), q_upd_n (by omega)]
  show (g_wr 12 (upd ls n 0) (nI n) (ls g)).bind _ = _
  rw [q_bind (q_wr (by omega) (by omega)), q_bind (s0 g)]
  show (f_X4_startOf (nI n) 0).bind _ = _
  rw [q_bind (s0 n)]
  have c : g_cp 1152 F (nI (96 * g)) 1152 F (nI (96 * n)) 96 = some (va_cpy F F (96 * g) (96 * n) 96) := by
    unfold g_cp
    rw [show (96 : Int32) = nI 96 from rfl, nI_clamp (by omega), nI_clamp (by omega), nI_clamp (by omega), if_neg]
    intro h
    rcases h with h | h | h | h | h
    · exact nI_pos (by omega) h
    · exact nI_pos (by omega) h
    · exact nI_pos (by omega) h
    · omega
    · omega
  rw [q_bind c, nI_1]
theorem q_copy {n : Nat} {ln pn : Nat → Nat} {F : Nat → Int32} {e : Nat} {en pc ls par len now tab : Nat → Int32} (hW : WP n pn ln pc ls F e en) (hR : RP n ln pn F e en par len now tab) (hn : n < 12) {N : Nat} (hN : 20000 ≤ N) {ct an nu ct' an' nu' : Nat → Int32} (hK : KE n ct an nu ct' an' nu') {f i g : Nat} (hf : f < n) (hi : i < ln f) (hg0 : 0 < g) (hg : g < n) (e0 : F (96 * f + 6 * i) = nI 10) (e2 : F (96 * f + 6 * i + 2) = nI g) (hc : ct (17 * f + i) ≠ 0) (hu : ∀ j, j < 3 → isOpd (F (96 * f + 6 * i + 3 + j))) :
    ∃ (pn2 ln2 : Nat → Nat) (pc2 ls2 F2 par2 len2 now2 : Nat → Int32), f_X3_copyFor N (nI f) (nI i) (nI n) pc ls F ct an nu = some (nI (n + 1), pc2, ls2, F2) ∧ f_X8_specialises_27 N ct' an' nu' (nI (16 * f + i)) (nI n) par len now = some (1, nI (n + 1), par2, len2, now2) ∧ WP (n + 1) pn2 ln2 pc2 ls2 F2 e en ∧ RP (n + 1) ln2 pn2 F2 e en par2 len2 now2 tab ∧ ∀ k, k < n → par2 k = par k ∧ len2 k = len k := by
  obtain ⟨l1, l2, l3, l4⟩ := hW.1 f hf
  obtain ⟨g1, g2, g3, g4⟩ := hW.1 g hg
  have r1 := hR.1
  have r2 := hR.2.1
  have e16 : (16 : Int32) * nI n = nI (16 * n) := by rw [show (16 : Int32) = nI 16 from rfl, pk_mul]
  -- the class
  have hls : ∀ k, k < n → upd (upd ls n 0) n (ls g) k = ls k := fun k hk => by rw [q_upd_n (by omega), q_upd_n (by omega)]
  have hpc : ∀ k, k < n → upd pc n (pc g) k = pc k := fun k hk => by rw [q_upd_n (by omega)]
  have hF1 : ∀ k, k < 96 * n → va_cpy F F (96 * g) (96 * n) 96 k = F k := fun k hk => pk_cpy_out (Or.inl hk)
  have hF1' : ∀ k, k < 96 → va_cpy F F (96 * g) (96 * n) 96 (96 * n + k) = F (96 * g + k) := fun k hk => by rw [pk_cpy_in (by omega) (by omega), show 96 * n + k - 96 * n = k by omega]
  generalize hls' : upd (upd ls n 0) n (ls g) = ls' at hls
  generalize hpc' : upd pc n (pc g) = pc' at hpc
  generalize hF1'' : va_cpy F F (96 * g) (96 * n) 96 = F1 at hF1 hF1'
  obtain ⟨P, hPd⟩ : ∃ P : Nat → Nat → Prop, P = fun a b => sm pn F ct an nu f i g a b := ⟨_, rfl⟩
  have c34 : ∀ (k24 : Int32 → Int32 → Int32 → Int32 → (Nat → Int32) → (Nat → Int32) → (Nat → Int32) → Option (Int32 × (Nat → Int32) × (Nat → Int32) × (Nat → Int32))) (a : Nat), a < n → ∀ (j b m : Nat) (G : Nat → Int32), b + j = ln a → Mk n ln P F1 G (16 * a + b) → ∃ G', Mk n ln P F1 G' (16 * (a + 1)) ∧ f_X3_copyFor_34 N k24 (nI f) (nI i) ct an nu (m + 1 + j) (nI g) (nI n) (nI a) (nI b) (nI (n + 1)) pc' ls' G = k24 (nI g) (nI n) (nI (a + 1)) (nI (n + 1)) pc' ls' G' := by
    intro k24 a ha j
    obtain ⟨a1, a2, a3, a4⟩ := hW.1 a ha
    induction j with
    | zero =>
      intro b m G hb hM
      refine ⟨G, Mk_up hM (by omega) (fun c d h1 h2 h3 h4 h5 _ => ?_), by rw [show m + 1 + 0 = m + 1 from rfl, f_X3_copyFor_34, q_bind (q_rd (by omega) (by omega)), hls a ha, a3, if_pos (nI_le (by omega) (by omega)), nI_1]⟩
      obtain rfl : c = a := by omega
      omega
    | succ j ih =>
      intro b m G hb hM
      refine Classical.byContradiction (fun hgoal => ?_)
      have skip : ¬ P a b → f_X3_copyFor_34 N k24 (nI f) (nI i) ct an nu (m + 1 + (j + 1)) (nI g) (nI n) (nI a) (nI b) (nI (n + 1)) pc' ls' G = f_X3_copyFor_34 N k24 (nI f) (nI i) ct an nu (m + 1 + j) (nI g) (nI n) (nI a) (nI (b + 1)) (nI (n + 1)) pc' ls' G → False := fun hp he => hgoal (by
        rw [he]
        refine ih (b + 1) m G (by omega) (Mk_up hM (by omega) (fun c d h1 h2 h3 h4 h5 h6 => ?_))
        obtain rfl : c = a := by omega
        obtain rfl : d = b := by omega
        exact hp h6)
      have put : P a b → f_X3_copyFor_34 N k24 (nI f) (nI i) ct an nu (m + 1 + (j + 1)) (nI g) (nI n) (nI a) (nI b) (nI (n + 1)) pc' ls' G = f_X3_copyFor_34 N k24 (nI f) (nI i) ct an nu (m + 1 + j) (nI g) (nI n) (nI a) (nI (b + 1)) (nI (n + 1)) pc' ls' (upd G (96 * a + 6 * b + 2) (nI n)) → False := fun hp he => hgoal (by
        rw [he]
        exact ih (b + 1) m _ (by omega) (Mk_put hM ha (by omega) (by omega) hp))
      have hG : ∀ w, w < 6 → G (96 * a + 6 * b + w) = F (96 * a + 6 * b + w) := fun w hw => by
        rw [(hM a b w (by omega) hw).2 (fun h => by omega), hF1 _ (by omega)]
      have hGf : ∀ j, j < 3 → G (96 * f + 6 * i + 3 + j) = F (96 * f + 6 * i + 3 + j) := fun j hj => by
        rw [show 96 * f + 6 * i + 3 + j = 96 * f + 6 * i + (3 + j) by omega, (hM f i (3 + j) (by omega) (by omega)).2 (fun h => by omega), hF1 _ (by omega)]
      obtain ⟨op, d, w1, w2, w3, w4, hu', w6, w7, w8⟩ := hW.2.2.1 a ha b (by omega)
      have pa : f_X4_placeOf (nI a) (nI b) ls' = some (nI (17 * a + b)) := by
        have := q_placeOf (p := b) (ls := ls') (ln := ln) (show a < 12 by omega) (by omega) (by rw [hls a ha]; exact a3) a4
        rw [show min b (ln a) = b by omega] at this; exact this
      have isc : f_X3_isCallComeTo (nI a) (nI b) ls' G ct = if nI op = 10 then if ct (17 * a + b) = 0 then some 0 else some 1 else some 0 := by
        unfold f_X3_isCallComeTo
        rw [q_bind (show f_X4_fieldOf (nI a) (nI b) 0 G = _ from q_fieldOf (w := 0) (by omega) (by omega) (by omega)), hG 0 (by omega), show F (96 * a + 6 * b + 0) = nI op from w3, q_bind pa, q_bind (q_rd (by omega) (by omega))]
      have pre : f_X3_copyFor_34 N k24 (nI f) (nI i) ct an nu (m + 1 + (j + 1)) (nI g) (nI n) (nI a) (nI b) (nI (n + 1)) pc' ls' G = (f_X3_isCallComeTo (nI a) (nI b) ls' G ct).bind (fun o3 => if o3 = 0 then f_X3_copyFor_34 N k24 (nI f) (nI i) ct an nu (m + 1 + j) (nI g) (nI n) (nI a) (nI (b + 1)) (nI (n + 1)) pc' ls' G else if F (96 * a + 6 * b + 2) = nI g then (f_X3_sayTheSame N (nI f) (nI i) (nI a) (nI b) pc' ls' G an nu).bind (fun o7 => if o7 = 0 then f_X3_copyFor_34 N k24 (nI f) (nI i) ct an nu (m + 1 + j) (nI g) (nI n) (nI a) (nI (b + 1)) (nI (n + 1)) pc' ls' G else f_X3_copyFor_34 N k24 (nI f) (nI i) ct an nu (m + 1 + j) (nI g) (nI n) (nI a) (nI (b + 1)) (nI (n + 1)) pc' ls' (upd G (96 * a + 6 * b + 2) (nI n))) else f_X3_copyFor_34 N k24 (nI f) (nI i) ct an nu (m + 1 + j) (nI g) (nI n) (nI a) (nI (b + 1)) (nI (n + 1)) pc' ls' G) := by
        rw [show m + 1 + (j + 1) = m + 1 + j + 1 from rfl, f_X3_copyFor_34, q_bind (q_rd (by omega) (by omega)), hls a ha, a3, if_neg (nI_ge (by omega) (by omega)), nI_1, q_bind (show f_X4_fieldOf (nI a) (nI b) 2 G = _ from q_fieldOf (w := 2) (by omega) (by omega) (by omega)), hG 2 (by omega), q_bind (show f_X4_putField (nI a) (nI b) 2 (nI n) G = _ from q_putField (w := 2) (by omega) (by omega) (by omega))]
      have t1 : ¬ (1 : Int32) = 0 := by decide
      by_cases ho : op = 10
      · subst ho
        rw [if_pos (show nI 10 = 10 from rfl)] at isc
        by_cases hca : ct (17 * a + b) = 0
        · rw [if_pos hca] at isc
          exact skip (fun h => by rw [hPd] at h; exact h.1 hca) (by rw [pre, q_bind isc, if_pos rfl])
        · rw [if_neg hca] at isc
          by_cases hx : F (96 * a + 6 * b + 2) = nI g
          · rcases q_sayC (pn := pn) (ln := ln) (F := F) (G := G) (pc := pc') (ls := ls') (an := an) (nu := nu) hN (show f < 12 by omega) (show a < 12 by omega) hi (show b < ln a by omega) (by rw [hls f hf]; exact l3) l4 (by rw [hls a ha]; exact a3) a4 (show g < 12 by omega) (by rw [hpc g hg]; exact g1) g2 hGf (fun j hj => q_3w hG hj) (by rw [hG 2 (by omega)]; exact hx) hu (fun j hj => hu' j hj) with ⟨s1, s2⟩ | ⟨s1, s2⟩
            · exact put (by rw [hPd]; exact ⟨hca, w3, hx, s2⟩) (by rw [pre, q_bind isc, if_neg t1, if_pos hx, q_bind s1, if_neg t1])
            · exact skip (fun h => by rw [hPd] at h; exact s2 h.2.2.2) (by rw [pre, q_bind isc, if_neg t1, if_pos hx, q_bind s1, if_pos rfl])
          · exact skip (fun h => by rw [hPd] at h; exact hx h.2.2.1) (by rw [pre, q_bind isc, if_neg t1, if_neg hx])
      · have hne : ¬ nI op = 10 := fun q => ho ((nI_eq (b := 10) (by omega) (by omega)).mp q)
        rw [if_neg hne] at isc
        exact skip (fun h => by rw [hPd] at h; exact hne (w3.symm.trans h.2.1)) (by rw [pre, q_bind isc, if_pos rfl])
  have c24 : ∀ (j a m : Nat) (G : Nat → Int32), a + j = n → Mk n ln P F1 G (16 * a) → ∃ G', Mk n ln P F1 G' (16 * n) ∧ f_X3_copyFor_24 N (nI f) (nI i) ct an nu (m + 1 + j) (nI g) (nI n) (nI a) (nI (n + 1)) pc' ls' G = some (nI (n + 1), pc', ls', G') := by
    intro j
    induction j with
    | zero =>
      intro a m G ha hM
      obtain rfl : a = n := by omega
      exact ⟨G, hM, by rw [show m + 1 + 0 = m + 1 from rfl, f_X3_copyFor_24, if_pos (nI_le (by omega) (by omega))]⟩
    | succ j ih =>
      intro a m G ha hM
      obtain ⟨G1, x1, x2⟩ := c34 (f_X3_copyFor_24 N (nI f) (nI i) ct an nu (m + 1 + j)) a (by omega) (ln a) 0 (N - ln a - 1) G (by omega) hM
      have := (hW.1 a (by omega)).2.2.2
      rw [show N - ln a - 1 + 1 + ln a = N by omega] at x2
      obtain ⟨G2, y1, y2⟩ := ih (a + 1) m G1 (by omega) x1
      exact ⟨G2, y1, by rw [show m + 1 + (j + 1) = m + 1 + j + 1 from rfl, f_X3_copyFor_24, if_neg (nI_ge (by omega) (by omega)), ← y2]; exact x2⟩
  obtain ⟨F2, hF2, hC⟩ := c24 n 0 (N - n - 1) F1 (by omega) (Mk_0)
  rw [show N - n - 1 + 1 + n = N by omega] at hC
  have cls : f_X3_copyFor N (nI f) (nI i) (nI n) pc ls F ct an nu = some (nI (n + 1), pc', ls', F2) := by
    unfold f_X3_copyFor
    rw [q_bind (show f_X4_fieldOf (nI f) (nI i) 2 F = _ from q_fieldOf (w := 2) (by omega) (by omega) (by omega)), e2, q_bind (q_cpC hn hg), hls', hpc', hF1'']
    exact hC
  -- the reference
  have hpar : ∀ k, k < n → upd par n (par g) k = par k := fun k hk => by rw [q_upd_n (by omega)]
  have hlen : ∀ k, k < n → upd len n (len g) k = len k := fun k hk => by rw [q_upd_n (by omega)]
  have hparn : upd par n (par g) n = nI (pn g) := by rw [q_upd_s]; exact (r1 g hg).1
  have hlenn : upd len n (len g) n = nI (ln g) := by rw [q_upd_s]; exact (r1 g hg).2
  generalize hpar' : upd par n (par g) = par' at hpar hparn
  generalize hlen' : upd len n (len g) = len' at hlen hlenn
  have c84 : ∀ (j x m : Nat) (G : Nat → Int32), x + j = 96 → (∀ y, y < x → G (96 * n + y) = now (96 * g + y)) → (∀ y, y < 96 * n → G y = now y) → ∃ G', (∀ y, y < 96 → G' (96 * n + y) = now (96 * g + y)) ∧ (∀ y, y < 96 * n → G' y = now y) ∧ f_X8_specialises_84 N ct' an' nu' (m + 1 + j) (nI (16 * f + i)) (nI g) (nI x) (nI n) par' len' G = f_X8_specialises_123 N ct' an' nu' N (nI (16 * f + i)) (nI 0) (nI n) par' len' G' := by
    intro j
    induction j with
    | zero =>
      intro x m G hx h1 h2
      obtain rfl : x = 96 := by omega
      exact ⟨G, h1, h2, by rw [show m + 1 + 0 = m + 1 from rfl, f_X8_specialises_84, if_pos (show (96 : Int32) ≤ nI 96 by decide)]; rfl⟩
    | succ j ih =>
      intro x m G hx h1 h2
      obtain ⟨G', x1, x2, x3⟩ := ih (x + 1) m (upd G (96 * n + x) (now (96 * g + x))) (by omega) (fun y hy => by
        by_cases e : y = x
        · subst e; exact q_upd_s
        · rw [q_upd_n (by omega)]; exact h1 y (by omega)) (fun y hy => by rw [q_upd_n (by omega)]; exact h2 y hy)
      refine ⟨G', x1, x2, ?_⟩
      have e96 : ∀ k, (96 : Int32) * nI k + nI x = nI (96 * k + x) := fun k => by rw [show (96 : Int32) = nI 96 from rfl, pk_mul, nI_add]
      rw [show m + 1 + (j + 1) = m + 1 + j + 1 from rfl, f_X8_specialises_84, if_neg (show ¬ (96 : Int32) ≤ nI x from nI_ge (b := 96) (by omega) (by omega)), e96, e96, q_bind (q_rd (k := 96 * g + x) (by omega) (by omega)), q_bind (q_wr (k := 96 * n + x) (by omega) (by omega)), h2 (96 * g + x) (by omega), nI_1]
      exact x3
  obtain ⟨now1, hn1, hn2, hA⟩ := c84 96 0 (N - 96 - 1) now (by omega) (fun y hy => by omega) (fun _ _ => rfl)
  rw [show N - 96 - 1 + 1 + 96 = N by omega] at hA
  obtain ⟨Q, hQd⟩ : ∃ Q : Nat → Nat → Prop, Q = fun a b => sm pn F ct an nu f i g a b ∧ ¬ (a = f ∧ b = i) := ⟨_, rfl⟩
  have c123 : ∀ (j K m : Nat) (G : Nat → Int32), K + j = 16 * n → Mk n ln Q now1 G K → ∃ G', Mk n ln Q now1 G' (16 * n) ∧ f_X8_specialises_123 N ct' an' nu' (m + 1 + j) (nI (16 * f + i)) (nI K) (nI n) par' len' G = some (1, nI (n + 1), par', len', upd G' (96 * f + 6 * i + 2) (nI n)) := by
    intro j
    induction j with
    | zero =>
      intro K m G hk hM
      obtain rfl : K = 16 * n := by omega
      exact ⟨G, hM, by rw [show m + 1 + 0 = m + 1 from rfl, f_X8_specialises_123, e16, if_pos (nI_le (by omega) (by omega)), q_6k, show nI (96 * f + 6 * i) + 2 = nI (96 * f + 6 * i + 2) from nI_add _ 2, q_bind (q_wr (by omega) (by omega)), nI_1]⟩
    | succ j ih =>
      intro K m G hk hM
      obtain ⟨a, b, hKe, hb⟩ : ∃ a b, K = 16 * a + b ∧ b < 16 := ⟨K / 16, K % 16, by omega, by omega⟩
      subst hKe
      have ha : a < n := by omega
      obtain ⟨a1, a2, a3, a4⟩ := hW.1 a ha
      refine Classical.byContradiction (fun hgoal => ?_)
      have skip : ¬ (b < ln a ∧ Q a b) → f_X8_specialises_123 N ct' an' nu' (m + 1 + (j + 1)) (nI (16 * f + i)) (nI (16 * a + b)) (nI n) par' len' G = f_X8_specialises_123 N ct' an' nu' (m + 1 + j) (nI (16 * f + i)) (nI (16 * a + b + 1)) (nI n) par' len' G → False := fun hp he => hgoal (by
        rw [he]
        refine ih (16 * a + b + 1) m G (by omega) (Mk_up hM (by omega) (fun c d h1 h2 h3 h4 h5 h6 => ?_))
        obtain rfl : c = a := by omega
        obtain rfl : d = b := by omega
        exact hp ⟨h5, h6⟩)
      have put : b < ln a → Q a b → f_X8_specialises_123 N ct' an' nu' (m + 1 + (j + 1)) (nI (16 * f + i)) (nI (16 * a + b)) (nI n) par' len' G = f_X8_specialises_123 N ct' an' nu' (m + 1 + j) (nI (16 * f + i)) (nI (16 * a + b + 1)) (nI n) par' len' (upd G (96 * a + 6 * b + 2) (nI n)) → False := fun hp hq he => hgoal (by
        rw [he]
        exact ih (16 * a + b + 1) m _ (by omega) (Mk_put hM ha hp hb hq))
      have pre : f_X8_specialises_123 N ct' an' nu' (m + 1 + (j + 1)) (nI (16 * f + i)) (nI (16 * a + b)) (nI n) par' len' G = if nI (16 * a + b) = nI (16 * f + i) then f_X8_specialises_123 N ct' an' nu' (m + 1 + j) (nI (16 * f + i)) (nI (16 * a + b + 1)) (nI n) par' len' G else (f_X8_agree N (nI (16 * f + i)) (nI (16 * a + b)) par' len' G ct' an' nu').bind (fun o4 => if o4 = 0 then f_X8_specialises_123 N ct' an' nu' (m + 1 + j) (nI (16 * f + i)) (nI (16 * a + b + 1)) (nI n) par' len' G else f_X8_specialises_123 N ct' an' nu' (m + 1 + j) (nI (16 * f + i)) (nI (16 * a + b + 1)) (nI n) par' len' (upd G (96 * a + 6 * b + 2) (nI n))) := by
        rw [show m + 1 + (j + 1) = m + 1 + j + 1 from rfl, f_X8_specialises_123, e16, if_neg (nI_ge (by omega) (by omega)), nI_1, q_6k, show nI (96 * a + 6 * b) + 2 = nI (96 * a + 6 * b + 2) from nI_add _ 2, q_bind (q_wr (n := 1152) (f := G) (by omega) (by omega))]
      by_cases hself : a = f ∧ b = i
      · obtain ⟨rfl, rfl⟩ := hself
        exact skip (fun h => by rw [hQd] at h; exact h.2.2 ⟨rfl, rfl⟩) (by rw [pre, if_pos rfl])
      · have hne : ¬ nI (16 * a + b) = nI (16 * f + i) := fun q => by
          have := (nI_eq (by omega) (by omega)).mp q
          exact hself ⟨by omega, by omega⟩
        have hGf : ∀ w, w < 6 → G (96 * f + 6 * i + w) = F (96 * f + 6 * i + w) := fun w hw => by
          rw [(hM f i w (by omega) hw).2 (fun h => by rw [hQd] at h; exact h.2.2.2.2.2 ⟨rfl, rfl⟩), hn2 _ (by omega), r2 f hf i hi w hw]
        have hGa : b < ln a → ∀ w, w < 6 → G (96 * a + 6 * b + w) = F (96 * a + 6 * b + w) := fun hbl w hw => by
          rw [(hM a b w hb hw).2 (fun h => by omega), hn2 _ (by omega), r2 a ha b hbl w hw]
        rcases q_agreeR (pn := pn) (ln := ln) (F := F) (par := par') (len := len') (now := G) hN (by omega) hK hf (show i < 16 by omega) ha hb hg hg0 (by rw [hpar g hg]; exact (r1 g hg).1) g2 (by rw [hlen a ha]; exact (r1 a ha).2) a4 hGf hGa e2 hu (fun hbl => hW.2.2.1 a ha b hbl) hc with ⟨s1, s2⟩ | ⟨s1, s2, s3⟩
        · exact skip (fun h => by rw [hQd] at h; exact s2 ⟨h.1, h.2.1⟩) (by rw [pre, if_neg hne, q_bind s1, if_pos rfl])
        · exact put s2 (by rw [hQd]; exact ⟨s3, hself⟩) (by rw [pre, if_neg hne, q_bind s1, if_neg (show ¬ (1 : Int32) = 0 by decide)])
  obtain ⟨now2, hM2, hB⟩ := c123 (16 * n) 0 (N - 16 * n - 1) now1 (by omega) Mk_0
  rw [show N - 16 * n - 1 + 1 + 16 * n = N by omega] at hB
  have ref : f_X8_specialises_27 N ct' an' nu' (nI (16 * f + i)) (nI n) par len now = some (1, nI (n + 1), par', len', upd now2 (96 * f + 6 * i + 2) (nI n)) := by
    unfold f_X8_specialises_27
    have rX : g_rd 1152 now (nI (96 * f + 6 * i) + 2) = some (nI g) := by
      rw [show nI (96 * f + 6 * i) + 2 = nI (96 * f + 6 * i + 2) from nI_add _ 2, ← e2]; exact RP_rd hR (by omega) hf hi l4 (w := 2) (by omega) rfl
    rw [e16, if_neg (fun q => by have := (nI_eq (by omega) (by omega)).mp q; omega), q_6k, q_bind rX, q_bind (q_rd (n := 12) (f := par) (by omega) (by omega)), q_bind (q_wr (n := 12) (f := par) (by omega) (by omega)), q_bind (q_rd (n := 12) (f := len) (by omega) (by omega)), q_bind (q_wr (n := 12) (f := len) (by omega) (by omega)), hpar', hlen']
    exact hA.trans hB
  -- the new program
  have hself : P f i := by rw [hPd]; exact ⟨hc, e0, e2, fun r hr => rfl⟩
  have ln2n : ∀ k, k < n → nup ln n (ln g) k = ln k := fun k hk => nup_n (by omega)
  have pn2n : ∀ k, k < n → nup pn n (pn g) k = pn k := fun k hk => nup_n (by omega)
  have F2n : ∀ j, j < 16 → ∀ w, w < 6 → F2 (96 * n + 6 * j + w) = F (96 * g + 6 * j + w) := fun j hj w hw => by
    rw [(hF2 n j w hj hw).2 (fun h => by omega), show 96 * n + 6 * j + w = 96 * n + (6 * j + w) by omega, hF1' _ (by omega), show 96 * g + (6 * j + w) = 96 * g + 6 * j + w by omega]
  refine ⟨nup pn n (pn g), nup ln n (ln g), pc', ls', F2, par', len', _, cls, ref, ⟨fun k hk => ?_, ?_, fun k hk j hj => ?_, fun j hj => ?_⟩, ⟨fun k hk => ?_, fun k hk j hj w hw => ?_, hR.2.2⟩, fun k hk => ⟨hpar k hk, hlen k hk⟩⟩
  · by_cases hkn : k = n
    · subst hkn
      rw [nup_s, nup_s, ← hpc', ← hls', q_upd_s, q_upd_s]
      exact ⟨g1, g2, g3, g4⟩
    · rw [pn2n k (by omega), ln2n k (by omega), hpc k (by omega), hls k (by omega)]
      exact hW.1 k (by omega)
  · rw [pn2n 0 (by omega)]; exact hW.2.1
  · by_cases hkn : k = n
    · subst hkn
      rw [nup_s] at hj
      exact (hW.2.2.1 g hg j hj).tr (by omega) (fun w hw => F2n j (by omega) w hw)
    · rw [ln2n k (by omega)] at hj
      have hk' : k < n := by omega
      have hl := (hW.1 k hk').2.2.2
      have ws := hW.2.2.1 k hk' j hj
      by_cases hm : P k j
      · obtain ⟨op, d, w1, w2, w3, w4, hu', w6, w7, w8⟩ := ws
        have o10 : op = 10 := by
          rw [hPd] at hm
          exact (nI_eq (by omega) (by omega)).mp (w3.symm.trans hm.2.1)
        subst o10
        have oth : ∀ w, w < 6 → w ≠ 2 → F2 (96 * k + 6 * j + w) = F (96 * k + 6 * j + w) := fun w hw h2 => by
          rw [(hF2 k j w (by omega) hw).2 (fun h => h2 h.1), hF1 _ (by omega)]
        refine ⟨10, d, w1, w2, by rw [show F2 (96 * k + 6 * j) = F (96 * k + 6 * j) from oth 0 (by omega) (by omega)]; exact w3, by rw [oth 1 (by omega) (by omega)]; exact w4, fun r hr => ?_, fun h => by omega, fun _ => ⟨n, by omega, (hF2 k j 2 (by omega) (by omega)).1 ⟨rfl, by omega, hk', hj, hm⟩⟩, fun h => by omega⟩
        have hr3 : r < 3 := hr
        rw [show 96 * k + 6 * j + 3 + r = 96 * k + 6 * j + (3 + r) by omega, oth (3 + r) (by omega) (by omega), show 96 * k + 6 * j + (3 + r) = 96 * k + 6 * j + 3 + r by omega]
        exact hu' r hr
      · exact ws.tr (by omega) (fun w hw => by rw [(hF2 k j w (by omega) hw).2 (fun h => hm h.2.2.2.2), hF1 _ (by omega)])
  · obtain ⟨x, hx, ex⟩ := hW.2.2.2 j hj
    exact ⟨x, by omega, ex⟩
  · by_cases hkn : k = n
    · subst hkn
      rw [nup_s, nup_s]; exact ⟨hparn, hlenn⟩
    · rw [pn2n k (by omega), ln2n k (by omega), hpar k (by omega), hlen k (by omega)]
      exact r1 k (by omega)
  · by_cases hkn : k = n
    · subst hkn
      rw [nup_s] at hj
      rw [F2n j (by omega) w hw, q_upd_n (by omega), (hM2 k j w (by omega) hw).2 (fun h => by omega), show 96 * k + 6 * j + w = 96 * k + (6 * j + w) by omega, hn1 _ (by omega), show 96 * g + (6 * j + w) = 96 * g + 6 * j + w by omega]
      exact r2 g hg j hj w hw
    · rw [ln2n k (by omega)] at hj
      have hk' : k < n := by omega
      have hl := (hW.1 k hk').2.2.2
      by_cases hs : k = f ∧ j = i ∧ w = 2
      · obtain ⟨rfl, rfl, rfl⟩ := hs
        rw [q_upd_s, (hF2 k j 2 (by omega) (by omega)).1 ⟨rfl, by omega, hk', hj, hself⟩]
      · rw [q_upd_n (by omega)]
        by_cases hm : w = 2 ∧ P k j
        · obtain ⟨rfl, hm⟩ := hm
          rw [(hF2 k j 2 (by omega) (by omega)).1 ⟨rfl, by omega, hk', hj, hm⟩, (hM2 k j 2 (by omega) (by omega)).1 ⟨rfl, by omega, hk', hj, by rw [hQd]; rw [hPd] at hm; exact ⟨hm, fun h => hs ⟨h.1, h.2, rfl⟩⟩⟩]
        · rw [(hF2 k j w (by omega) hw).2 (fun h => hm ⟨h.1, h.2.2.2.2⟩), (hM2 k j w (by omega) hw).2 (fun h => hm ⟨h.1, by rw [hPd]; have := h.2.2.2.2; rw [hQd] at this; exact this.1⟩), hF1 _ (by omega), hn2 _ (by omega)]
          exact r2 k hk' j hj w hw
