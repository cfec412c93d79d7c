/-! PURE 18: the first special call, on both sides -/
/-- a call that is come to, as the reference tests it at k = 16 f + i -/
theorem q_isCall {n : Nat} {ln pn : Nat → Nat} {F : Nat → Int32} {e : Nat} {en pc ls par len now tab : Nat → Int32} (hW : WP n pn ln pc ls F e en) (hR : RP n ln pn F e en par len now tab) (hn : n ≤ 12) {ct an nu ct' an' nu' : Nat → Int32} (hK : KE n ct an nu ct' an' nu') {f i : Nat} (hf : f < n) (hi16 : i < 16) :
    (ln f ≤ i ∧ f_X8_isCall (nI (16 * f + i)) len now ct' = some 0) ∨
    (i < ln f ∧ f_X3_isCallComeTo (nI f) (nI i) ls F ct = some 0 ∧ f_X8_isCall (nI (16 * f + i)) len now ct' = some 0) ∨
    (i < ln f ∧ ∃ g d, g < n ∧ d < 6 ∧ F (96 * f + 6 * i) = nI 10 ∧ F (96 * f + 6 * i + 1) = nI d ∧ F (96 * f + 6 * i + 2) = nI g ∧ ct (17 * f + i) ≠ 0 ∧ f_X3_isCallComeTo (nI f) (nI i) ls F ct = some 1 ∧ ((g = 0 ∧ f_X8_isCall (nI (16 * f + i)) len now ct' = some 0) ∨ (0 < g ∧ f_X8_isCall (nI (16 * f + i)) len now ct' = some 1)) ∧ ∀ j, j < 3 → isOpd (F (96 * f + 6 * i + 3 + j))) := by
  obtain ⟨l1, l2, l3, l4⟩ := hW.1 f hf
  have m6 : (6 : Int32) * nI (16 * f + i) = nI (96 * f + 6 * i) := by rw [q_m6, show 6 * (16 * f + i) = 96 * f + 6 * i by omega]
  unfold f_X8_isCall f_X3_isCallComeTo
  rw [q_bind (q_dv16 (by omega)), q_bind (q_rm16 (by omega)), show (16 * f + i) / 16 = f by omega, show (16 * f + i) % 16 = i by omega, q_bind (q_rd (by omega) (by omega)), (hR.1 f hf).2, q_17, m6]
  by_cases hi : i < ln f
  · right
    obtain ⟨op, d, hop, hd, e0, e1, hu, h78, h10, h11⟩ := hW.2.2.1 f hf i hi
    have hK1 := (hK (17 * f + i) (by omega)).1
    have r0 : g_rd 1152 now (nI (96 * f + 6 * i)) = some (nI op) := by rw [← e0]; exact RP_rd hR hn hf hi l4 (w := 0) (by omega) rfl
    have r2 : g_rd 1152 now (nI (96 * f + 6 * i) + 2) = some (F (96 * f + 6 * i + 2)) := by
      rw [show nI (96 * f + 6 * i) + 2 = nI (96 * f + 6 * i + 2) from nI_add _ 2]; exact RP_rd hR hn hf hi l4 (w := 2) (by omega) rfl
    rw [if_neg (nI_ge hi (by omega)), q_bind (q_rd (n := 204) (f := ct') (by omega) (by omega)), ← hK1, q_bind (show f_X4_fieldOf (nI f) (nI i) 0 F = _ from q_fieldOf (w := 0) (by omega) (by omega) (by omega)), show F (96 * f + 6 * i + 0) = nI op from e0]
    by_cases ho : op = 10
    · subst ho
      obtain ⟨g, hg, eg⟩ := h10 rfl
      rw [if_pos (by decide), q_bind (q_place hW hn hf hi), q_bind (q_rd (by omega) (by omega))]
      by_cases hc : ct (17 * f + i) = 0
      · exact Or.inl ⟨hi, by rw [if_pos hc], by rw [if_pos hc]⟩
      · right
        refine ⟨hi, g, d, hg, hd, e0, e1, eg, hc, by rw [if_neg hc], ?_, fun j hj => hu j hj⟩
        rw [if_neg hc, q_bind r0, if_pos (by decide), q_bind r2, eg]
        by_cases hg0 : g = 0
        · exact Or.inl ⟨hg0, by rw [if_pos (show nI g ≤ 0 by rw [hg0]; decide)]⟩
        · exact Or.inr ⟨by omega, by rw [if_neg (nI_nle (by omega) (by omega))]⟩
    · left
      have hne : ¬ nI op = 10 := fun q => ho ((nI_eq (b := 10) (by omega) (by omega)).mp q)
      refine ⟨hi, by rw [if_neg hne], ?_⟩
      by_cases hc : ct (17 * f + i) = 0
      · rw [if_pos hc]
      · rw [if_neg hc, q_bind r0, if_neg hne]
  · exact Or.inl ⟨by omega, by rw [if_pos (nI_le (by omega) (by omega))]⟩
theorem q_spk {n : Nat} {ln pn : Nat → Nat} {F : Nat → Int32} {e : Nat} {en pc ls par len now tab : Nat → Int32} (hW : WP n pn ln pc ls F e en) (hR : RP n ln pn F e en par len now tab) (hn : n ≤ 12) {N : Nat} (hN : 20000 ≤ N) {ct an nu ct' an' nu' : Nat → Int32} (hK : KE n ct an nu ct' an' nu') (hS : Sol n ln pn F e en (kC ct an nu)) {f i : Nat} (hf : f < n) (hi16 : i < 16) :
    ∃ b : Int32, (b = 0 ∨ b = 1) ∧ f_X8_isSpecial N (nI (16 * f + i)) par len now ct' an' = some b ∧ (i < ln f → (f_X3_isCallComeTo (nI f) (nI i) ls F ct = some 0 ∧ b = 0) ∨ (f_X3_isCallComeTo (nI f) (nI i) ls F ct = some 1 ∧ f_X3_isSpecial N (nI f) (nI i) pc ls F an = some b)) ∧ (b = 1 → i < ln f ∧ ∃ g d, 0 < g ∧ g < n ∧ d < 6 ∧ F (96 * f + 6 * i) = nI 10 ∧ F (96 * f + 6 * i + 1) = nI d ∧ F (96 * f + 6 * i + 2) = nI g ∧ ct (17 * f + i) ≠ 0 ∧ ∀ j, j < 3 → isOpd (F (96 * f + 6 * i + 3 + j))) := by
  obtain ⟨l1, l2, l3, l4⟩ := hW.1 f hf
  unfold f_X8_isSpecial
  rcases q_isCall hW hR hn hK hf hi16 with ⟨hi, a⟩ | ⟨hi, a, b⟩ | ⟨hi, g, d, hg, hd, e0, e1, e2, hc, a, b, hu⟩
  · exact ⟨0, Or.inl rfl, by rw [q_bind a, if_pos rfl], fun h => by omega, fun h => absurd h (by decide)⟩
  · exact ⟨0, Or.inl rfl, by rw [q_bind b, if_pos rfl], fun _ => Or.inl ⟨a, rfl⟩, fun h => absurd h (by decide)⟩
  · obtain ⟨z, z1, z2, z3⟩ := q_spec hW hR hn hN hK hS hf hi hg hd e0 e1 e2 hu hc
    rcases b with ⟨rfl, b⟩ | ⟨hg0, b⟩
    · have hz : z = 0 := by
        have : f_X8_isSpecial_27 N (nI (16 * f + i)) par len now ct' an' N (nI 0) 0 0 = some 0 := by
          obtain ⟨N', rfl⟩ : ∃ m, N = m + 1 := ⟨N - 1, by omega⟩
          rw [f_X8_isSpecial_27, q_bind (q_rd (by omega) (by omega)), (hR.1 0 hg).1, hW.2.1, if_pos (by decide), q_bind (q_zr (Or.inl rfl))]
        rw [this] at z3; exact (Option.some.inj z3).symm
      subst hz
      exact ⟨0, Or.inl rfl, by rw [q_bind b, if_pos rfl], fun _ => Or.inr ⟨a, z2⟩, fun h => absurd h (by decide)⟩
    · have m6 : (6 : Int32) * nI (16 * f + i) = nI (96 * f + 6 * i) := by rw [q_m6, show 6 * (16 * f + i) = 96 * f + 6 * i by omega]
      have r2 : g_rd 1152 now (nI (96 * f + 6 * i) + 2) = some (F (96 * f + 6 * i + 2)) := by
        rw [show nI (96 * f + 6 * i) + 2 = nI (96 * f + 6 * i + 2) from nI_add _ 2]; exact RP_rd hR hn hf hi l4 (w := 2) (by omega) rfl
      refine ⟨z, z1, ?_, fun _ => Or.inr ⟨a, z2⟩, fun _ => ⟨hi, g, d, hg0, hg, hd, e0, e1, e2, hc, hu⟩⟩
      rw [q_bind b, if_neg (by decide), m6, q_bind r2, e2, z3]
theorem q_first {n : Nat} {ln pn : Nat → Nat} {F : Nat → Int32} {e : Nat} {en pc ls par len now tab : Nat → Int32} (hW : WP n pn ln pc ls F e en) (hR : RP n ln pn F e en par len now tab) (hn : n ≤ 12) {N : Nat} (hN : 20000 ≤ N) {ct an nu ct' an' nu' : Nat → Int32} (hK : KE n ct an nu ct' an' nu') (hS : Sol n ln pn F e en (kC ct an nu)) :
    (f_X3_firstSpecialCall N (nI n) pc ls F ct an = some (-1) ∧ f_X8_specialises N (nI n) par len now ct' an' nu' = f_X8_specialises_27 N ct' an' nu' (nI (16 * n)) (nI n) par len now) ∨
    ∃ f i g d, f < n ∧ i < ln f ∧ 0 < g ∧ g < n ∧ d < 6 ∧ F (96 * f + 6 * i) = nI 10 ∧ F (96 * f + 6 * i + 1) = nI d ∧ F (96 * f + 6 * i + 2) = nI g ∧ ct (17 * f + i) ≠ 0 ∧ (∀ j, j < 3 → isOpd (F (96 * f + 6 * i + 3 + j))) ∧ f_X3_firstSpecialCall N (nI n) pc ls F ct an = some (nI (16 * f + i)) ∧ f_X8_specialises N (nI n) par len now ct' an' nu' = f_X8_specialises_27 N ct' an' nu' (nI (16 * f + i)) (nI n) par len now := by
  obtain ⟨b, eb⟩ : ∃ b : Nat → Int32, ∀ k, b k = (f_X8_isSpecial N (nI k) par len now ct' an').getD 0 := ⟨_, fun _ => rfl⟩
  have hb : ∀ f i, f < n → i < 16 → (b (16 * f + i) = 0 ∨ b (16 * f + i) = 1) ∧ f_X8_isSpecial N (nI (16 * f + i)) par len now ct' an' = some (b (16 * f + i)) ∧ (i < ln f → (f_X3_isCallComeTo (nI f) (nI i) ls F ct = some 0 ∧ b (16 * f + i) = 0) ∨ (f_X3_isCallComeTo (nI f) (nI i) ls F ct = some 1 ∧ f_X3_isSpecial N (nI f) (nI i) pc ls F an = some (b (16 * f + i)))) ∧ (b (16 * f + i) = 1 → i < ln f ∧ ∃ g d, 0 < g ∧ g < n ∧ d < 6 ∧ F (96 * f + 6 * i) = nI 10 ∧ F (96 * f + 6 * i + 1) = nI d ∧ F (96 * f + 6 * i + 2) = nI g ∧ ct (17 * f + i) ≠ 0 ∧ ∀ j, j < 3 → isOpd (F (96 * f + 6 * i + 3 + j))) := by
    intro f i hf hi
    obtain ⟨z, z1, z2, z3, z4⟩ := q_spk hW hR hn hN hK hS hf hi
    have : b (16 * f + i) = z := by rw [eb, z2]; rfl
    rw [this]; exact ⟨z1, z2, z3, z4⟩
  have e16 : (16 : Int32) * nI n = nI (16 * n) := by rw [show (16 : Int32) = nI 16 from rfl, pk_mul]
  -- the class
  have c15 : ∀ (k2 : Int32 → Option Int32) (f : Nat), f < n → ∀ (j i m : Nat), i + j = ln f → (∃ i', i ≤ i' ∧ i' < ln f ∧ b (16 * f + i') = 1 ∧ (∀ i'', i ≤ i'' → i'' < i' → b (16 * f + i'') = 0) ∧ f_X3_firstSpecialCall_15 N k2 (nI n) pc ls F ct an (m + 1 + j) (nI f) (nI i) = some (nI (16 * f + i'))) ∨ ((∀ i', i ≤ i' → i' < ln f → b (16 * f + i') = 0) ∧ f_X3_firstSpecialCall_15 N k2 (nI n) pc ls F ct an (m + 1 + j) (nI f) (nI i) = k2 (nI (f + 1))) := by
    intro k2 f hf j
    obtain ⟨l1, l2, l3, l4⟩ := hW.1 f hf
    induction j with
    | zero =>
      intro i m hi
      exact Or.inr ⟨fun i' h1 h2 => by omega, by rw [show m + 1 + 0 = m + 1 from rfl, f_X3_firstSpecialCall_15, q_bind (q_rd (by omega) (by omega)), l3, if_pos (nI_le (by omega) (by omega)), nI_1]⟩
    | succ j ih =>
      intro i m hi
      obtain ⟨h1, h2, h3, h4⟩ := hb f i hf (by omega)
      have skip : b (16 * f + i) = 0 → f_X3_firstSpecialCall_15 N k2 (nI n) pc ls F ct an (m + 1 + (j + 1)) (nI f) (nI i) = f_X3_firstSpecialCall_15 N k2 (nI n) pc ls F ct an (m + 1 + j) (nI f) (nI (i + 1)) := fun h0 => by
        rw [show m + 1 + (j + 1) = m + 1 + j + 1 from rfl, f_X3_firstSpecialCall_15, q_bind (q_rd (by omega) (by omega)), l3, if_neg (nI_ge (by omega) (by omega)), nI_1]
        rcases h3 (by omega) with ⟨a, _⟩ | ⟨a, a'⟩
        · rw [q_bind a, if_pos rfl]
        · rw [q_bind a, if_neg (show ¬ (1 : Int32) = 0 by decide), q_bind a', if_pos h0]
      rcases h1 with h0 | h0
      · rw [skip h0]
        rcases ih (i + 1) m (by omega) with ⟨i', a1, a2, a3, a4, a5⟩ | ⟨a1, a2⟩
        · refine Or.inl ⟨i', by omega, a2, a3, fun i'' c1 c2 => ?_, a5⟩
          by_cases ei : i'' = i
          · subst ei; exact h0
          · exact a4 i'' (by omega) c2
        · refine Or.inr ⟨fun i' c1 c2 => ?_, a2⟩
          by_cases ei : i' = i
          · subst ei; exact h0
          · exact a1 i' (by omega) c2
      · refine Or.inl ⟨i, by omega, by omega, h0, fun i'' c1 c2 => by omega, ?_⟩
        rw [show m + 1 + (j + 1) = m + 1 + j + 1 from rfl, f_X3_firstSpecialCall_15, q_bind (q_rd (by omega) (by omega)), l3, if_neg (nI_ge (by omega) (by omega))]
        rcases h3 (by omega) with ⟨_, a⟩ | ⟨a, a'⟩
        · rw [h0] at a; exact absurd a (by decide)
        · rw [q_bind a, if_neg (show ¬ (1 : Int32) = 0 by decide), q_bind a', h0, if_neg (show ¬ (1 : Int32) = 0 by decide), show (16 : Int32) = nI 16 from rfl, pk_mul, nI_add, Nat.mul_comm f 16]
  have c2 : ∀ (j f m : Nat), f + j = n → (∃ k, 16 * f ≤ k ∧ k < 16 * n ∧ b k = 1 ∧ (∀ k', 16 * f ≤ k' → k' < k → b k' = 0) ∧ f_X3_firstSpecialCall_2 N (nI n) pc ls F ct an (m + 1 + j) (nI f) = some (nI k)) ∨ ((∀ k', 16 * f ≤ k' → k' < 16 * n → b k' = 0) ∧ f_X3_firstSpecialCall_2 N (nI n) pc ls F ct an (m + 1 + j) (nI f) = some (-1)) := by
    intro j
    induction j with
    | zero =>
      intro f m hf
      exact Or.inr ⟨fun k' h1 h2 => by omega, by rw [show m + 1 + 0 = m + 1 from rfl, f_X3_firstSpecialCall_2, if_pos (nI_le (by omega) (by omega))]⟩
    | succ j ih =>
      intro f m hf
      have hl := (hW.1 f (by omega)).2.2.2
      have over : ∀ i, ln f ≤ i → i < 16 → b (16 * f + i) = 0 := fun i h1 h2 => by
        obtain ⟨x1, x2, x3, x4⟩ := hb f i (by omega) h2
        rcases x1 with x1 | x1
        · exact x1
        · have := (x4 x1).1; omega
      rw [show m + 1 + (j + 1) = m + 1 + j + 1 from rfl, f_X3_firstSpecialCall_2, if_neg (nI_ge (by omega) (by omega))]
      have := c15 (f_X3_firstSpecialCall_2 N (nI n) pc ls F ct an (m + 1 + j)) f (by omega) (ln f) 0 (N - ln f - 1) (by omega)
      rw [show N - ln f - 1 + 1 + ln f = N by omega] at this
      rcases this with ⟨i', a1, a2, a3, a4, a5⟩ | ⟨a1, a2⟩
      · refine Or.inl ⟨16 * f + i', by omega, by omega, a3, fun k' c1 c2 => ?_, a5⟩
        have := a4 (k' - 16 * f) (by omega) (by omega)
        rw [show 16 * f + (k' - 16 * f) = k' by omega] at this
        exact this
      · have low : ∀ k', 16 * f ≤ k' → k' < 16 * (f + 1) → b k' = 0 := fun k' c1 c2 => by
          by_cases hlk : k' - 16 * f < ln f
          · have := a1 (k' - 16 * f) (by omega) hlk
            rw [show 16 * f + (k' - 16 * f) = k' by omega] at this
            exact this
          · have := over (k' - 16 * f) (by omega) (by omega)
            rw [show 16 * f + (k' - 16 * f) = k' by omega] at this
            exact this
        rcases ih (f + 1) m (by omega) with ⟨k, d1, d2, d3, d4, d5⟩ | ⟨d1, d2⟩
        · refine Or.inl ⟨k, by omega, d2, d3, fun k' c1 c2 => ?_, by rw [← d5]; exact a2⟩
          by_cases hk : k' < 16 * (f + 1)
          · exact low k' c1 hk
          · exact d4 k' (by omega) c2
        · refine Or.inr ⟨fun k' c1 c2 => ?_, by rw [← d2]; exact a2⟩
          by_cases hk : k' < 16 * (f + 1)
          · exact low k' c1 hk
          · exact d1 k' (by omega) c2
  have r2 : ∀ (j k m : Nat), k + j = 16 * n → (∃ k1, k ≤ k1 ∧ k1 < 16 * n ∧ b k1 = 1 ∧ (∀ k', k ≤ k' → k' < k1 → b k' = 0) ∧ f_X8_specialises_2 N ct' an' nu' (m + 1 + j) (nI k) (nI n) par len now = f_X8_specialises_27 N ct' an' nu' (nI k1) (nI n) par len now) ∨ ((∀ k', k ≤ k' → k' < 16 * n → b k' = 0) ∧ f_X8_specialises_2 N ct' an' nu' (m + 1 + j) (nI k) (nI n) par len now = f_X8_specialises_27 N ct' an' nu' (nI (16 * n)) (nI n) par len now) := by
    intro j
    induction j with
    | zero =>
      intro k m hk
      obtain rfl : k = 16 * n := by omega
      exact Or.inr ⟨fun k' h1 h2 => by omega, by rw [show m + 1 + 0 = m + 1 from rfl, f_X8_specialises_2, e16, if_pos (nI_le (by omega) (by omega))]⟩
    | succ j ih =>
      intro k m hk
      obtain ⟨h1, h2, _, _⟩ := hb (k / 16) (k % 16) (by omega) (by omega)
      rw [show 16 * (k / 16) + k % 16 = k by omega] at h1 h2
      rw [show m + 1 + (j + 1) = m + 1 + j + 1 from rfl, f_X8_specialises_2, e16, if_neg (nI_ge (by omega) (by omega)), q_bind h2, nI_1]
      rcases h1 with h0 | h0
      · rw [if_pos h0]
        rcases ih (k + 1) m (by omega) with ⟨k1, a1, a2, a3, a4, a5⟩ | ⟨a1, a2⟩
        · refine Or.inl ⟨k1, by omega, a2, a3, fun k' c1 c2 => ?_, a5⟩
          by_cases ek : k' = k
          · subst ek; exact h0
          · exact a4 k' (by omega) c2
        · refine Or.inr ⟨fun k' c1 c2 => ?_, a2⟩
          by_cases ek : k' = k
          · subst ek; exact h0
          · exact a1 k' (by omega) c2
      · rw [if_neg (by rw [h0]; decide)]
        exact Or.inl ⟨k, by omega, by omega, h0, fun k' c1 c2 => by omega, rfl⟩
  have A := c2 n 0 (N - n - 1) (by omega)
  rw [show N - n - 1 + 1 + n = N by omega] at A
  have B := r2 (16 * n) 0 (N - 16 * n - 1) (by omega)
  rw [show N - 16 * n - 1 + 1 + 16 * n = N by omega] at B
  rcases A with ⟨k, a1, a2, a3, a4, a5⟩ | ⟨a1, a2⟩
  · rcases B with ⟨k1, b1, b2, b3, b4, b5⟩ | ⟨b1, b2⟩
    · have hk : k1 = k := by
        rcases Nat.lt_trichotomy k k1 with h | h | h
        · have := b4 k (by omega) h
          rw [a3] at this; exact absurd this (by decide)
        · exact h.symm
        · have := a4 k1 (by omega) h
          rw [b3] at this; exact absurd this (by decide)
      subst hk
      obtain ⟨_, _, _, h4⟩ := hb (k1 / 16) (k1 % 16) (by omega) (by omega)
      rw [show 16 * (k1 / 16) + k1 % 16 = k1 by omega] at h4
      obtain ⟨c1, g, d, c3, c4, c5, c6, c7, c8, c9, c10⟩ := h4 a3
      refine Or.inr ⟨k1 / 16, k1 % 16, g, d, by omega, c1, c3, c4, c5, c6, c7, c8, c9, c10, ?_, ?_⟩
      · rw [show 16 * (k1 / 16) + k1 % 16 = k1 by omega]; exact a5
      · rw [show 16 * (k1 / 16) + k1 % 16 = k1 by omega]; exact b5
    · have := b1 k (by omega) a2
      rw [a3] at this; exact absurd this (by decide)
  · rcases B with ⟨k1, b1, b2, b3, b4, b5⟩ | ⟨b1, b2⟩
    · have := a1 k1 (by omega) b2
      rw [b3] at this; exact absurd this (by decide)
    · exact Or.inl ⟨a2, b2⟩
