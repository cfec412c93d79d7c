/-! PURE 12: the class's finder comes to the least solution -/
theorem q_dv17 {q : Nat} (h : q < 2 ^ 31) : g_dv (nI q) 17 = some (nI (q / 17)) := by
  unfold g_dv; rw [if_neg (by decide), show (17 : Int32) = nI 17 from rfl, pk_div h (by omega) (by omega)]
theorem q_rm17 {q : Nat} (h : q < 2 ^ 31) : g_rm (nI q) 17 = some (nI (q % 17)) := by
  unfold g_rm; rw [if_neg (by decide), show (17 : Int32) = nI 17 from rfl, pk_rem h (by omega) (by omega)]
theorem q_find38 {n : Nat} {ln pn : Nat → Nat} {F : Nat → Int32} {e : Nat} {en pc ls : Nat → Int32} (hW : WP n pn ln pc ls F e en) (hn : n ≤ 12) (he : e ≤ 4) {N : Nat} (hN : 20000 ≤ N) :
    ∀ (j pops fuel w : Nat) (ct an nu ra rn iw wt : Nat → Int32), pops + j = 1428 → j + 1 ≤ fuel → CI n pops ct an nu iw wt w → B01 6 ra → Bel n ln pn F e en (kC ct an nu) → (kC ct an nu).1 0 = true → rle (fun _ => some 0) ((kC ct an nu).2 0) → (∀ f, f < n → ∀ p, p < ln f → (kC ct an nu).1 (17 * f + p) = true → iw (17 * f + p) ≠ 0 ∨ Sat n ln pn F e en (kC ct an nu) f p) →
      ∃ (ct' an' nu' ra' rn' iw' wt' : Nat → Int32), f_X0_find_38 N (nI e) pc ls F en fuel (nI pops) (nI w) ct an nu ra rn iw wt = some (0, ct', an', nu', ra', rn', iw', wt') ∧ B01 6 ra' ∧ B01 204 ct' ∧ B01 1224 an' ∧ (∀ k, k < 204 → iw' k = 0) ∧ Sol n ln pn F e en (kC ct' an' nu') ∧ Bel n ln pn F e en (kC ct' an' nu') := by
  have hpn : ∀ g, g < n → pn g ≤ 3 := fun g hg => (hW.1 g hg).2.1
  intro j
  induction j with
  | zero =>
    intro pops fuel w ct an nu ra rn iw wt hj hfu hC hra hB h0 h1 hI
    obtain ⟨fuel, rfl⟩ : ∃ m, fuel = m + 1 := ⟨fuel - 1, by omega⟩
    have hm := mu_le (17 * n) (kC ct an nu)
    have hw : w = 0 := by have := hC.2.2.2.2.2; omega
    subst hw
    have hz : ∀ k, k < 204 → iw k = 0 := fun k hk => by
      have := msum_0 (f := fun q => if iw q = 0 then 0 else 1) hC.2.2.1.symm hk
      by_cases e : iw k = 0
      · exact e
      · rw [if_neg e] at this; omega
    refine ⟨ct, an, nu, ra, rn, iw, wt, by rw [f_X0_find_38, if_pos (show 1428 ≤ nI pops from nI_le (a := 1428) (by omega) (by omega))]; rfl, hra, hC.1, hC.2.1, hz, ⟨h0, h1, fun f hf p hp hc t row ha => ?_⟩, hB⟩
    have := (hW.1 f hf).2.2.2
    exact (hI f hf p hp hc).resolve_left (fun x => x (hz _ (by omega))) t row ha
  | succ j ih =>
    intro pops fuel w ct an nu ra rn iw wt hj hfu hC hra hB h0 h1 hI
    obtain ⟨fuel, rfl⟩ : ∃ m, fuel = m + 1 := ⟨fuel - 1, by omega⟩
    rw [f_X0_find_38, if_neg (show ¬ 1428 ≤ nI pops from nI_ge (b := 1428) (by omega) (by omega))]
    cases w with
    | zero =>
      have hz : ∀ k, k < 204 → iw k = 0 := fun k hk => by
        have := msum_0 (f := fun q => if iw q = 0 then 0 else 1) hC.2.2.1.symm hk
        by_cases e : iw k = 0
        · exact e
        · rw [if_neg e] at this; omega
      refine ⟨ct, an, nu, ra, rn, iw, wt, by rw [if_pos (by decide)]; rfl, hra, hC.1, hC.2.1, hz, ⟨h0, h1, fun f hf p hp hc t row ha => ?_⟩, hB⟩
      have := (hW.1 f hf).2.2.2
      exact (hI f hf p hp hc).resolve_left (fun x => x (hz _ (by omega))) t row ha
    | succ w =>
      obtain ⟨c1, c2, c3, c4, ⟨wq, c5, c6⟩, c7⟩ := hC
      obtain ⟨d1, d2, d3⟩ := c5 w (by omega)
      obtain ⟨q, eq⟩ : ∃ q, q = wq w := ⟨_, rfl⟩
      rw [← eq] at d1 d2 d3
      have hw204 : w < 204 := by
        have := msum_c (c := 1) (f := fun q => if iw q = 0 then 0 else 1) (n := 204) (fun q _ => by
          show (if iw q = 0 then 0 else 1) ≤ 1
          split <;> omega)
        omega
      have hC1 : CI n (pops + 1) ct an nu (upd iw q 0) wt w := by
        refine ⟨c1, c2, ?_, fun k hk h => ?_, ⟨wq, fun i hi => ?_, fun i j hij hj => c6 i j hij (by omega)⟩, by omega⟩
        · have := msum_u (f := fun k => if upd iw q 0 k = 0 then 0 else 1) (g := fun k => if iw k = 0 then 0 else 1) (t := q) (n := 204) (by omega) (fun k _ hne => by
            show (if iw k = 0 then 0 else 1) = if upd iw q 0 k = 0 then 0 else 1
            rw [q_upd_n hne]) (by
            show (if iw q = 0 then 0 else 1) = (if upd iw q 0 q = 0 then 0 else 1) + 1
            rw [q_upd_s, if_neg d3, if_pos rfl])
          omega
        · by_cases e : k = q
          · subst e; rw [q_upd_s] at h; exact absurd rfl h
          · rw [q_upd_n e] at h; exact c4 k hk h
        · obtain ⟨f1, f2, f3⟩ := c5 i (by omega)
          have hne : wq i ≠ q := by rw [eq]; exact c6 i w hi (by omega)
          rw [q_upd_n hne]; exact ⟨f1, f2, f3⟩
      have hcq : (kC ct an nu).1 (17 * (q / 17) + q % 17) = true := by
        rw [show 17 * (q / 17) + q % 17 = q by omega]; exact kC_t.mpr (c4 q d2 d3)
      obtain ⟨w2, ct2, an2, nu2, ra2, rn2, iw2, wt2, a1, a2, a3, a4, a5, a6⟩ := q_goOn (f := q / 17) (p := q % 17) (rn := rn) hW hn he hN (by omega) (by omega) hC1 hra hB hcq
      rw [show 17 * (q / 17) + q % 17 = q by omega] at a6
      rw [if_neg (nI_nle (by omega) (by omega)), nI_pred, q_bind (q_rd hw204 (by omega)), d1, q_bind (q_wz (by omega) (by omega) (Or.inl rfl)), q_bind (q_dv17 (by omega)), q_bind (q_rm17 (by omega)), q_bind a1, nI_1]
      obtain ⟨k1, k2⟩ := a5.1 0 (by omega) h0
      refine ih (pops + 1) fuel w2 ct2 an2 nu2 ra2 rn2 iw2 wt2 (by omega) (by omega) a3 a2 a4 k1 (rle_t h1 k2) (fun f hf p hp hc => ?_)
      have hl := (hW.1 f hf).2.2.2
      by_cases e : 17 * f + p = q
      · rw [show q / 17 = f by omega, show q % 17 = p by omega] at a6
        rw [e]; exact a6 hp
      · rcases a5.2.2 (17 * f + p) (by omega) with g | ⟨g1, g2⟩
        · exact Or.inl g
        · rcases hI f hf p hp (g1.symm.trans hc) with g | g
          · exact Or.inl (a5.2.1 _ (by omega) (by rw [q_upd_n e]; exact g))
          · exact Or.inr (Sat_m hf hl (hW.2.2.1 f hf p hp) hpn g a5.1 (rle_e g2))
theorem q_forget (N : Nat) : ∀ (j k m : Nat) (ct : Nat → Int32), k + j = 204 → (∀ i, i < k → ct i = 0) → ∃ ct' : Nat → Int32, (∀ i, i < 204 → ct' i = 0) ∧ f_X1_forget_2 N (m + 1 + j) (nI k) ct = some ct' := by
  intro j
  induction j with
  | zero =>
    intro k m ct hk h
    obtain rfl : k = 204 := by omega
    exact ⟨ct, h, by rw [show m + 1 + 0 = m + 1 from rfl, f_X1_forget_2, if_pos (by decide)]⟩
  | succ j ih =>
    intro k m ct hk h
    obtain ⟨ct', a, b⟩ := ih (k + 1) m (upd ct k 0) (by omega) (fun i hi => by
      by_cases e : i = k
      · subst e; exact q_upd_s
      · rw [q_upd_n e]; exact h i (by omega))
    refine ⟨ct', a, ?_⟩
    rw [show m + 1 + (j + 1) = m + 1 + j + 1 from rfl, f_X1_forget_2, if_neg (show ¬ 204 ≤ nI k from nI_ge (b := 204) (by omega) (by omega)), q_bind (q_wz (by omega) (by omega) (Or.inl rfl)), nI_1, b]
theorem q_find9 (N : Nat) (te w : Int32) (pc ls F en ct an nu iw wt : Nat → Int32) : ∀ (j k m : Nat) (ra rn : Nat → Int32), k + j = 6 → B01 6 ra → (∀ i, i < k → rV ra rn i = some 0) → ∃ ra' rn' : Nat → Int32, B01 6 ra' ∧ (∀ i, i < 6 → rV ra' rn' i = some 0) ∧ f_X0_find_9 N te pc ls F en (m + 1 + j) (nI k) w ct an nu ra rn iw wt = (f_X0_arriveAt N 0 0 w ls ct an nu ra' rn' iw wt).bind (fun o9 => f_X0_find_38 N te pc ls F en N 0 o9.1 o9.2.1 o9.2.2.1 o9.2.2.2.1 ra' rn' o9.2.2.2.2.1 o9.2.2.2.2.2) := by
  intro j
  induction j with
  | zero =>
    intro k m ra rn hk hB h
    obtain rfl : k = 6 := by omega
    exact ⟨ra, rn, hB, h, by rw [show m + 1 + 0 = m + 1 from rfl, f_X0_find_9, if_pos (by decide)]⟩
  | succ j ih =>
    intro k m ra rn hk hB h
    obtain ⟨ra', rn', a, b, c⟩ := ih (k + 1) m (upd ra k 0) (upd rn k 0) (by omega) (B01_u hB (Or.inl rfl)) (fun i hi => by
      rw [rV_N]
      by_cases e : i = k
      · rw [if_pos e]
      · rw [if_neg e]; exact h i (by omega))
    refine ⟨ra', rn', a, b, ?_⟩
    rw [show m + 1 + (j + 1) = m + 1 + j + 1 from rfl, f_X0_find_9, if_neg (show ¬ 6 ≤ nI k from nI_ge (b := 6) (by omega) (by omega)), q_bind (q_putN (by omega) 0 ra rn), nI_1, c]
theorem q_findC {n : Nat} {ln pn : Nat → Nat} {F : Nat → Int32} {e : Nat} {en pc ls : Nat → Int32} (hW : WP n pn ln pc ls F e en) (h0 : 0 < n) (hn : n ≤ 12) (he : e ≤ 4) {N : Nat} (hN : 20000 ≤ N) {an ra iw : Nat → Int32} (ct nu rn wt : Nat → Int32) (han : B01 1224 an) (hra : B01 6 ra) (hiw : ∀ k, k < 204 → iw k = 0) :
    ∃ (ct' an' nu' ra' rn' iw' wt' : Nat → Int32), f_X0_find N 0 (nI e) pc ls F en ct an nu ra rn iw wt = some (0, ct', an', nu', ra', rn', iw', wt') ∧ B01 6 ra' ∧ B01 204 ct' ∧ B01 1224 an' ∧ (∀ k, k < 204 → iw' k = 0) ∧ Sol n ln pn F e en (kC ct' an' nu') ∧ Bel n ln pn F e en (kC ct' an' nu') := by
  obtain ⟨ct1, a1, a2⟩ := q_forget N 204 0 (N - 205) ct rfl (fun i hi => absurd hi (Nat.not_lt_zero i))
  rw [show N - 205 + 1 + 204 = N by omega] at a2
  obtain ⟨ra1, rn1, b1, b2, b3⟩ := q_find9 N (nI e) (nI 0) pc ls F en ct1 an nu iw wt 6 0 (N - 7) ra rn rfl hra (fun i hi => absurd hi (Nat.not_lt_zero i))
  rw [show N - 7 + 1 + 6 = N by omega] at b3
  have hf : ∀ q, q < 204 → (kC ct1 an nu).1 q = false := fun q hq => kC_f.mpr (a1 q hq)
  have hB : Bel n ln pn F e en (kC ct1 an nu) := fun S hS q hq hc => by
    rw [hf q (by omega)] at hc; cases hc
  have hs0 : msum (fun q => if iw q = 0 then 0 else 1) 204 = 0 := by
    have := msum_c (c := 0) (f := fun q => if iw q = 0 then 0 else 1) (n := 204) (fun q hq => by
      show (if iw q = 0 then 0 else 1) ≤ 0
      rw [if_pos (hiw q hq)]; exact Nat.le_refl _)
    omega
  have hC : CI n 0 ct1 an nu iw wt 0 := ⟨fun k hk => Or.inl (a1 k hk), han, hs0.symm, fun q hq h => absurd (hiw q (by omega)) h, ⟨fun _ => 0, fun i hi => absurd hi (Nat.not_lt_zero i), fun i j _ hj => absurd hj (Nat.not_lt_zero j)⟩, by omega⟩
  obtain ⟨w', ct', an', nu', iw', wt', d1, d2, d3, d4, d5, d6⟩ := q_arrive (g := 0) (x := 0) (t := 0) hW hn hN h0 (by omega) (by omega) hC b1 hB (row := fun _ => some 0) b2 (fun S hS => ⟨hS.1, hS.2.1⟩)
  obtain ⟨ct2, an2, nu2, ra2, rn2, iw2, wt2, e1, e2⟩ := q_find38 hW hn he hN 1428 0 N w' ct' an' nu' ra1 rn1 iw' wt' rfl (by omega) d2 b1 d3 d5 d6 (fun f hf' p hp hc => by
    have hl := (hW.1 f hf').2.2.2
    rcases d4.2.2 (17 * f + p) (by omega) with g | ⟨g, _⟩
    · exact Or.inl g
    · rw [g, hf _ (by omega)] at hc; cases hc)
  refine ⟨ct2, an2, nu2, ra2, rn2, iw2, wt2, ?_, e2⟩
  unfold f_X0_find f_X1_forget
  rw [q_bind (show f_X1_forget_2 N N 0 ct = some ct1 from a2)]
  refine b3.trans ?_
  rw [q_bind (show f_X0_arriveAt N 0 0 (nI 0) ls ct1 an nu ra1 rn1 iw wt = _ from d1)]
  exact e1
