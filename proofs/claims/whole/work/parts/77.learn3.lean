/-! PURE 15: the reference comes to the least solution -/
theorem q_oneR {n : Nat} {ln pn : Nat → Nat} {F : Nat → Int32} {e : Nat} {en pc ls par len now tab : Nat → Int32} (hW : WP n pn ln pc ls F e en) (hR : RP n ln pn F e en par len now tab) (hn : n ≤ 12) {N : Nat} (hN : 20000 ≤ N) {f p op d x : Nat} (hf : f < n) (hp : p < ln f) (hop : op ≤ 12) (hd : d < 6) (e0 : F (96 * f + 6 * p) = nI op) (e1 : F (96 * f + 6 * p + 1) = nI d) (hu : ∀ j, j < usesN op → isOpd (F (96 * f + 6 * p + 3 + j))) (hx : x ≤ 16)
    {nw : Int32} (hnw : nw = 0 ∨ nw = 1) {ct an nu oa ou : Nat → Int32} (hD : DI n ct an nu) (hB : Bel n ln pn F e en (kC ct an nu)) (hc : (kC ct an nu).1 (17 * f + p) = true) (hrow : ∀ i, i < 6 → rV oa ou i = chg e F op d (96 * f + 6 * p) (kV an nu (17 * f + p)) i)
    (h1 : ArrN ln F e op d f p (96 * f + 6 * p) (kV an nu (17 * f + p)) (17 * f + min x (ln f)) (chg e F op d (96 * f + 6 * p) (kV an nu (17 * f + p)))) (h2 : ∀ t row, ArrN ln F e op d f p (96 * f + 6 * p) (kV an nu (17 * f + p)) t row → t = 17 * f + min x (ln f) ∧ row = chg e F op d (96 * f + 6 * p) (kV an nu (17 * f + p))) :
    ∃ (nw' : Int32) (ct' an' nu' : Nat → Int32), f_X8_come N (nI f) (nI x) nw len ct an nu oa ou = some (nw', ct', an', nu') ∧ DI n ct' an' nu' ∧ Bel n ln pn F e en (kC ct' an' nu') ∧ RG n (kC ct an nu) nw (kC ct' an' nu') nw' ∧ (nw' = 0 → ∀ t row, ArrN ln F e op d f p (96 * f + 6 * p) ((kC ct' an' nu').2 (17 * f + p)) t row → (kC ct' an' nu').1 t = true ∧ rle row ((kC ct' an' nu').2 t)) := by
  obtain ⟨l1, l2, l3, l4⟩ := hW.1 f hf
  have hJ := Jus_arr hB hf hp l4 (hW.2.2.1 f hf p hp) (fun g hg => (hW.1 g hg).2.1) hc (show Arr n ln pn F e en f p (kV an nu (17 * f + p)) _ _ from ⟨op, d, hop, hd, e0, e1, Or.inr h1⟩)
  obtain ⟨nw', ct', an', nu', a1, a2, a3, a4, a5, a6⟩ := q_comeA hN hn hf hx (hR.1 f hf).2 l4 rfl hnw hD hB hrow hJ
  refine ⟨nw', ct', an', nu', a1, a2, a3, a4, fun h0 t row ha => ?_⟩
  have b := ((a4.2.2.1 h0).2 (17 * f + p) (by omega)).2
  obtain ⟨row', c1, c2⟩ := ArrN_m hu (rle_e b) ha
  obtain ⟨rfl, rfl⟩ := h2 t row' c1
  exact ⟨a5, rle_t c2 a6⟩
theorem q_48R {n : Nat} {ln pn : Nat → Nat} {F : Nat → Int32} {e : Nat} {en pc ls par len now tab : Nat → Int32} (hW : WP n pn ln pc ls F e en) (hR : RP n ln pn F e en par len now tab) (hn : n ≤ 12) (he : e ≤ 4) {N : Nat} (hN : 20000 ≤ N) {f p op d : Nat} (hf : f < n) (hp : p < ln f) (hop : op ≤ 12) (hd : d < 6) (e0 : F (96 * f + 6 * p) = nI op) (e1 : F (96 * f + 6 * p + 1) = nI d) (hu : ∀ j, j < usesN op → isOpd (F (96 * f + 6 * p + 3 + j))) (h78 : op = 7 ∨ op = 8 → ∃ x : Nat, x ≤ 16 ∧ F (96 * f + 6 * p + 2) = nI x)
    {nw : Int32} (hnw : nw = 0 ∨ nw = 1) {ct an nu oa ou : Nat → Int32} (hD : DI n ct an nu) (hoa : B01 6 oa) (hB : Bel n ln pn F e en (kC ct an nu)) (hc : (kC ct an nu).1 (17 * f + p) = true) :
    ∃ (nw' : Int32) (ct' an' nu' oa' ou' : Nat → Int32), f_X8_spread_48 N (nI f) (nI p) (nI e) par len now tab (nI (17 * f + p)) (nI (96 * f + 6 * p)) (nI op) nw ct an nu oa ou = some (nw', ct', an', nu', oa', ou') ∧ B01 6 oa' ∧ DI n ct' an' nu' ∧ Bel n ln pn F e en (kC ct' an' nu') ∧ RG n (kC ct an nu) nw (kC ct' an' nu') nw' ∧ (nw' = 0 → ∀ t row, ArrN ln F e op d f p (96 * f + 6 * p) ((kC ct' an' nu').2 (17 * f + p)) t row → (kC ct' an' nu').1 t = true ∧ rle row ((kC ct' an' nu').2 t)) := by
  obtain ⟨l1, l2, l3, l4⟩ := hW.1 f hf
  obtain ⟨oa1, ou1, t1, t2, t3⟩ := q_chR hW hR hn he hN hf hp hop hd e0 e1 hu nu ou hD.2.1 hoa
  have ne : ∀ j : Nat, j < 100 → op ≠ j → ¬ nI op = nI j := fun j hj h q => h ((nI_eq (by omega) (by omega)).mp q)
  have r2 : g_rd 1152 now (nI (96 * f + 6 * p) + 2) = some (F (96 * f + 6 * p + 2)) := by
    rw [show nI (96 * f + 6 * p) + 2 = nI (96 * f + 6 * p + 2) from nI_add _ 2]; exact RP_rd hR hn hf hp l4 (w := 2) (by omega) rfl
  have r3 : g_rd 1152 now (nI (96 * f + 6 * p) + 3) = some (F (96 * f + 6 * p + 3)) := by
    rw [show nI (96 * f + 6 * p) + 3 = nI (96 * f + 6 * p + 3) from nI_add _ 3]; exact RP_rd hR hn hf hp l4 (w := 3) (by omega) rfl
  unfold f_X8_spread_48
  rw [q_bind t1]
  have on : ∀ (nw' : Int32) (ct' an' nu' : Nat → Int32), f_X8_come N (nI f) (nI (p + 1)) nw len ct an nu oa1 ou1 = some (nw', ct', an', nu') → f_X8_spread_171 N (nI f) (nI p) (nI e) par len now tab (nI (96 * f + 6 * p)) 0 1 nw ct an nu oa1 ou1 = some (nw', ct', an', nu', oa1, ou1) := fun nw' ct' an' nu' h => by
    unfold f_X8_spread_171
    rw [if_pos rfl, if_neg (by decide), nI_1, q_bind h]
  have goes : ∀ (x : Nat) (nw' : Int32) (ct' an' nu' : Nat → Int32), F (96 * f + 6 * p + 2) = nI x → f_X8_come N (nI f) (nI x) nw len ct an nu oa1 ou1 = some (nw', ct', an', nu') → f_X8_spread_171 N (nI f) (nI p) (nI e) par len now tab (nI (96 * f + 6 * p)) 1 0 nw ct an nu oa1 ou1 = some (nw', ct', an', nu', oa1, ou1) := fun x nw' ct' an' nu' ex h => by
    unfold f_X8_spread_171
    rw [if_neg (by decide), q_bind r2, ex, q_bind h, if_pos rfl]
  by_cases h8 : op = 8
  · obtain ⟨x, hx, ex⟩ := h78 (Or.inr h8)
    obtain ⟨nw', ct', an', nu', a1, a2, a3, a4, a5⟩ := q_oneR (x := x) hW hR hn hN hf hp hop hd e0 e1 hu hx hnw hD hB hc t3 (Or.inl ⟨Or.inl h8, x, hx, ex, rfl, rfl⟩) (fun t row ha => by
      rcases ha with ⟨_, x', d1, d2, d3, d4⟩ | ⟨b1, _⟩
      · obtain rfl : x' = x := (nI_eq (by omega) (by omega)).mp (d2.symm.trans ex)
        exact ⟨d3, d4⟩
      · rcases b1 with b1 | ⟨b1, _⟩ <;> omega)
    rw [if_pos (show nI op = 8 by rw [h8]; rfl), if_pos (show nI op = 8 by rw [h8]; rfl)]
    unfold f_X8_spread_88
    rw [if_neg (show ¬ nI op = 7 from ne 7 (by omega) (by omega)), goes x _ _ _ _ ex a1]
    exact ⟨nw', ct', an', nu', oa1, ou1, rfl, t2, a2, a3, a4, a5⟩
  rw [if_neg (show ¬ nI op = 8 from ne 8 (by omega) h8), if_neg (show ¬ nI op = 8 from ne 8 (by omega) h8)]
  by_cases h9 : op = 9
  · rw [if_pos (show nI op = 9 by rw [h9]; rfl)]
    unfold f_X8_spread_88 f_X8_spread_171
    rw [if_neg (show ¬ nI op = 7 from ne 7 (by omega) (by omega)), if_pos rfl, if_pos rfl]
    refine ⟨nw, ct, an, nu, oa1, ou1, rfl, t2, hD, hB, RG_r _ _ hnw, fun _ t row ha => ?_⟩
    rcases ha with ⟨b1, _⟩ | ⟨b1, _⟩
    · rcases b1 with b1 | ⟨b1, _⟩ <;> omega
    · rcases b1 with b1 | ⟨b1, _⟩ <;> omega
  rw [if_neg (show ¬ nI op = 9 from ne 9 (by omega) h9)]
  unfold f_X8_spread_88
  by_cases h7 : op = 7
  · obtain ⟨x, hx, ex⟩ := h78 (Or.inl h7)
    have hAo : isOpd (F (96 * f + 6 * p + 3)) := hu 0 (by rw [h7]; decide)
    rw [if_pos (show nI op = 7 by rw [h7]; rfl), q_bind r3]
    rcases q_has (q := 17 * f + p) (by omega) hAo an nu with ⟨a, _, b⟩ | ⟨y, a, _, _, b, c⟩
    · have hJ := fun t row h => Jus_arr hB hf hp l4 (hW.2.2.1 f hf p hp) (fun g hg => (hW.1 g hg).2.1) hc (show Arr n ln pn F e en f p (kV an nu (17 * f + p)) t row from ⟨op, d, hop, hd, e0, e1, Or.inr h⟩)
      obtain ⟨nw1, ct1, an1, nu1, a1, a2, a3, a4, a5, a6⟩ := q_comeA (x := x) hN hn hf hx (hR.1 f hf).2 l4 rfl hnw hD hB t3 (hJ _ _ (Or.inl ⟨Or.inr ⟨h7, by rw [a]; exact fun z => by cases z⟩, x, hx, ex, rfl, rfl⟩))
      obtain ⟨nw2, ct2, an2, nu2, b1, b2, b3, b4, b5, b6⟩ := q_comeA (x := p + 1) hN hn hf (by omega) (hR.1 f hf).2 l4 rfl a4.2.1 a2 a3 t3 (hJ _ _ (Or.inr ⟨Or.inr ⟨h7, Or.inl a⟩, rfl, rfl⟩))
      rw [q_bind b, if_pos rfl]
      unfold f_X8_spread_140 f_X8_spread_171
      rw [if_pos rfl, if_pos rfl, if_neg (by decide), q_bind r2, ex, q_bind a1, if_neg (by decide), nI_1, q_bind b1]
      refine ⟨nw2, ct2, an2, nu2, oa1, ou1, rfl, t2, b2, b3, RG_t a4 b4, fun h0 t row ha => ?_⟩
      have q := (((RG_t a4 b4).2.2.1 h0).2 (17 * f + p) (by omega)).2
      obtain ⟨row', c1, c2⟩ := ArrN_m hu (rle_e q) ha
      rcases c1 with ⟨_, x', d1, d2, d3, d4⟩ | ⟨_, d2, d3⟩
      · obtain rfl : x' = x := (nI_eq (by omega) (by omega)).mp (d2.symm.trans ex)
        subst d3 d4
        obtain ⟨g1, g2⟩ := b4.1 _ (by omega) a5
        exact ⟨g1, rle_t c2 (rle_t a6 g2)⟩
      · subst d2 d3
        exact ⟨b5, rle_t c2 b6⟩
    · rw [q_bind b, if_neg (show ¬ (1 : Int32) = 0 by decide), q_bind r3, q_bind c]
      by_cases hy : y = 0
      · subst hy
        obtain ⟨nw', ct', an', nu', a1, a2, a3, a4, a5⟩ := q_oneR (x := p + 1) hW hR hn hN hf hp hop hd e0 e1 hu (by omega) hnw hD hB hc t3 (Or.inr ⟨Or.inr ⟨h7, Or.inr a⟩, rfl, rfl⟩) (fun t row ha => by
          rcases ha with ⟨b1, _⟩ | ⟨_, b2, b3⟩
          · rcases b1 with b1 | ⟨_, b1⟩
            · omega
            · exact absurd a b1
          · exact ⟨b2, b3⟩)
        rw [if_pos rfl]
        unfold f_X8_spread_140
        rw [if_neg (by decide), if_pos rfl, if_pos rfl, on _ _ _ _ a1]
        exact ⟨nw', ct', an', nu', oa1, ou1, rfl, t2, a2, a3, a4, a5⟩
      · obtain ⟨nw', ct', an', nu', a1, a2, a3, a4, a5⟩ := q_oneR (x := x) hW hR hn hN hf hp hop hd e0 e1 hu hx hnw hD hB hc t3 (Or.inl ⟨Or.inr ⟨h7, by rw [a]; exact fun z => hy (Option.some.inj z)⟩, x, hx, ex, rfl, rfl⟩) (fun t row ha => by
          rcases ha with ⟨_, x', d1, d2, d3, d4⟩ | ⟨b1, _⟩
          · obtain rfl : x' = x := (nI_eq (by omega) (by omega)).mp (d2.symm.trans ex)
            exact ⟨d3, d4⟩
          · rcases b1 with b1 | ⟨_, b1⟩
            · omega
            · rw [a] at b1
              rcases b1 with b1 | b1
              · cases b1
              · exact absurd (Option.some.inj b1) hy)
        rw [if_neg hy]
        unfold f_X8_spread_140
        rw [if_neg (show ¬ (1 : Int32) = 0 by decide), if_neg (show ¬ (1 : Int32) = 0 by decide), if_neg (show ¬ (1 : Int32) = 0 by decide), goes x _ _ _ _ ex a1]
        exact ⟨nw', ct', an', nu', oa1, ou1, rfl, t2, a2, a3, a4, a5⟩
  · obtain ⟨nw', ct', an', nu', a1, a2, a3, a4, a5⟩ := q_oneR (x := p + 1) hW hR hn hN hf hp hop hd e0 e1 hu (by omega) hnw hD hB hc t3 (Or.inr ⟨Or.inl ⟨h7, h8, h9⟩, rfl, rfl⟩) (fun t row ha => by
      rcases ha with ⟨b1, _⟩ | ⟨_, b2, b3⟩
      · rcases b1 with b1 | ⟨b1, _⟩ <;> omega
      · exact ⟨b2, b3⟩)
    rw [if_neg (show ¬ nI op = 7 from ne 7 (by omega) h7), on _ _ _ _ a1]
    exact ⟨nw', ct', an', nu', oa1, ou1, rfl, t2, a2, a3, a4, a5⟩
theorem q_17 {f p : Nat} : (17 : Int32) * nI f + nI p = nI (17 * f + p) := by
  rw [show (17 : Int32) = nI 17 from rfl, pk_mul, nI_add]
theorem q_spread {n : Nat} {ln pn : Nat → Nat} {F : Nat → Int32} {e : Nat} {en pc ls par len now tab : Nat → Int32} (hW : WP n pn ln pc ls F e en) (hR : RP n ln pn F e en par len now tab) (hn : n ≤ 12) (he : e ≤ 4) {N : Nat} (hN : 20000 ≤ N) {f p : Nat} (hf : f < n) (hp : p < ln f)
    {nw : Int32} (hnw : nw = 0 ∨ nw = 1) {ct an nu oa ou : Nat → Int32} (hD : DI n ct an nu) (hoa : B01 6 oa) (hB : Bel n ln pn F e en (kC ct an nu)) (hc : (kC ct an nu).1 (17 * f + p) = true) :
    ∃ (nw' : Int32) (ct' an' nu' oa' ou' : Nat → Int32), f_X8_spread N (nI f) (nI p) (nI e) nw par len now tab ct an nu oa ou = some (nw', ct', an', nu', oa', ou') ∧ B01 6 oa' ∧ DI n ct' an' nu' ∧ Bel n ln pn F e en (kC ct' an' nu') ∧ RG n (kC ct an nu) nw (kC ct' an' nu') nw' ∧ (nw' = 0 → Sat n ln pn F e en (kC ct' an' nu') f p) := by
  obtain ⟨l1, l2, l3, l4⟩ := hW.1 f hf
  obtain ⟨op, d, hop, hd, e0, e1, hu, h78, h10, h11⟩ := hW.2.2.1 f hf p hp
  have ne : ∀ j : Nat, j < 100 → op ≠ j → ¬ nI op = nI j := fun j hj h q => h ((nI_eq (by omega) (by omega)).mp q)
  have hpn : ∀ g, g < n → pn g ≤ 3 := fun g hg => (hW.1 g hg).2.1
  have r0 : g_rd 1152 now (nI (96 * f + 6 * p)) = some (nI op) := by rw [← e0]; exact RP_rd hR hn hf hp l4 (w := 0) (by omega) rfl
  unfold f_X8_spread
  rw [q_960, q_17, q_bind r0]
  by_cases hcall : op = 10 ∨ op = 11
  · obtain ⟨nw1, ct1, an1, nu1, oa1, ou1, a1, a2, a3, a4, a5, a6⟩ := q_callsR (ou := ou) hW hR hn he hN hf hp hcall hd e0 e1 hu h10 h11 hnw hD hoa hB hc
    obtain ⟨k1, k2⟩ := a5.1 (17 * f + p) (by omega) hc
    obtain ⟨nw2, ct2, an2, nu2, oa2, ou2, b1, b2, b3, b4, b5, b6⟩ := q_48R (ou := ou1) hW hR hn he hN hf hp hop hd e0 e1 hu h78 a5.2.1 a3 a2 a4 k1
    have fin : nw2 = 0 → Sat n ln pn F e en (kC ct2 an2 nu2) f p := fun h0 t row ha => by
      have htM := Arr_t hf l4 ha
      obtain ⟨op', d', o1, o2, o3, o4, ha⟩ := ha
      obtain rfl : op' = op := (nI_eq (by omega) (by omega)).mp (o3.symm.trans e0)
      obtain rfl : d' = d := (nI_eq (by omega) (by omega)).mp (o4.symm.trans e1)
      rcases ha with ha | ha
      · obtain ⟨z1, z2⟩ := b5.2.2.1 h0
        obtain ⟨row', c1, c2⟩ := ArrC_m hu h11 hpn (rle_e (z2 (17 * f + p) (by omega)).2) ha
        obtain ⟨g1, g2⟩ := a6 z1 t row' c1
        obtain ⟨g3, g4⟩ := b5.1 t htM g1
        exact ⟨g3, rle_t c2 (rle_t g2 g4)⟩
      · exact b6 h0 t row ha
    rcases hcall with h | h
    · rw [if_pos (show nI op = 10 by rw [h]; rfl), q_bind a1]
      exact ⟨nw2, ct2, an2, nu2, oa2, ou2, b1, b2, b3, b4, RG_t a5 b5, fin⟩
    · rw [if_neg (show ¬ nI op = 10 from ne 10 (by omega) (by omega)), if_pos (show nI op = 11 by rw [h]; rfl), q_bind a1]
      exact ⟨nw2, ct2, an2, nu2, oa2, ou2, b1, b2, b3, b4, RG_t a5 b5, fin⟩
  · obtain ⟨nw2, ct2, an2, nu2, oa2, ou2, b1, b2, b3, b4, b5, b6⟩ := q_48R (ou := ou) hW hR hn he hN hf hp hop hd e0 e1 hu h78 hnw hD hoa hB hc
    rw [if_neg (show ¬ nI op = 10 from ne 10 (by omega) (by omega)), if_neg (show ¬ nI op = 11 from ne 11 (by omega) (by omega))]
    refine ⟨nw2, ct2, an2, nu2, oa2, ou2, b1, b2, b3, b4, b5, fun h0 t row ha => ?_⟩
    obtain ⟨op', d', o1, o2, o3, o4, ha⟩ := ha
    obtain rfl : op' = op := (nI_eq (by omega) (by omega)).mp (o3.symm.trans e0)
    obtain rfl : d' = d := (nI_eq (by omega) (by omega)).mp (o4.symm.trans e1)
    rcases ha with ha | ha
    · rcases ha with ⟨x, _⟩ | ⟨x, _⟩ <;> omega
    · exact b6 h0 t row ha
theorem q_dv16 {q : Nat} (h : q < 2 ^ 31) : g_dv (nI q) 16 = some (nI (q / 16)) := by
  unfold g_dv; rw [if_neg (by decide), show (16 : Int32) = nI 16 from rfl, pk_div h (by omega) (by omega)]
theorem q_rm16 {q : Nat} (h : q < 2 ^ 31) : g_rm (nI q) 16 = some (nI (q % 16)) := by
  unfold g_rm; rw [if_neg (by decide), show (16 : Int32) = nI 16 from rfl, pk_rem h (by omega) (by omega)]
/-- one pass over all places -/
theorem q_pass {n : Nat} {ln pn : Nat → Nat} {F : Nat → Int32} {e : Nat} {en pc ls par len now tab : Nat → Int32} (hW : WP n pn ln pc ls F e en) (hR : RP n ln pn F e en par len now tab) (hn : n ≤ 12) (he : e ≤ 4) {N : Nat} (hN : 20000 ≤ N) (k98 : Int32 → (Nat → Int32) → (Nat → Int32) → (Nat → Int32) → (Nat → Int32) → (Nat → Int32) → Option (Int32 × (Nat → Int32) × (Nat → Int32) × (Nat → Int32) × (Nat → Int32) × (Nat → Int32))) :
    ∀ (j k m : Nat) (nw : Int32) (ct an nu oa ou : Nat → Int32), k + j = 16 * n → (nw = 0 ∨ nw = 1) → DI n ct an nu → B01 6 oa → Bel n ln pn F e en (kC ct an nu) →
      ∃ (nw' : Int32) (ct' an' nu' oa' ou' : Nat → Int32), f_X8_learn_112 N k98 (nI n) (nI e) par len now tab (m + 1 + j) (nI k) nw ct an nu oa ou = k98 nw' ct' an' nu' oa' ou' ∧ B01 6 oa' ∧ DI n ct' an' nu' ∧ Bel n ln pn F e en (kC ct' an' nu') ∧ RG n (kC ct an nu) nw (kC ct' an' nu') nw' ∧ (nw' = 0 → ∀ f, f < n → ∀ p, p < ln f → k ≤ 16 * f + p → (kC ct' an' nu').1 (17 * f + p) = true → Sat n ln pn F e en (kC ct' an' nu') f p) := by
  have e16 : (16 : Int32) * nI n = nI (16 * n) := by rw [show (16 : Int32) = nI 16 from rfl, pk_mul]
  intro j
  induction j with
  | zero =>
    intro k m nw ct an nu oa ou hk hnw hD hoa hB
    refine ⟨nw, ct, an, nu, oa, ou, by rw [show m + 1 + 0 = m + 1 from rfl, f_X8_learn_112, e16, if_pos (nI_le (by omega) (by omega))], hoa, hD, hB, RG_r _ _ hnw, fun _ f hf p hp h => ?_⟩
    have := (hW.1 f hf).2.2.2
    omega
  | succ j ih =>
    intro k m nw ct an nu oa ou hk hnw hD hoa hB
    have hf : k / 16 < n := by omega
    have hl := (hW.1 (k / 16) hf).2.2.2
    rw [show m + 1 + (j + 1) = m + 1 + j + 1 from rfl, f_X8_learn_112, e16, if_neg (nI_ge (by omega) (by omega)), q_bind (q_dv16 (by omega)), q_bind (q_rm16 (by omega)), q_bind (q_rd (by omega) (by omega)), (hR.1 _ hf).2, q_17, nI_1]
    by_cases hp : k % 16 < ln (k / 16)
    · rw [if_neg (nI_ge hp (by omega)), q_bind (q_rd (by omega) (by omega))]
      by_cases hc : ct (17 * (k / 16) + k % 16) = 0
      · rw [if_pos hc]
        obtain ⟨nw', ct', an', nu', oa', ou', a1, a2, a3, a4, a5, a6⟩ := ih (k + 1) m nw ct an nu oa ou (by omega) hnw hD hoa hB
        refine ⟨nw', ct', an', nu', oa', ou', a1, a2, a3, a4, a5, fun h0 f hf' p hp' h hc' => ?_⟩
        have hl' := (hW.1 f hf').2.2.2
        by_cases e : 16 * f + p = k
        · obtain rfl : f = k / 16 := by omega
          obtain rfl : p = k % 16 := by omega
          rw [((a5.2.2.1 h0).2 _ (by omega)).1] at hc'
          exact absurd hc (kC_t.mp hc')
        · exact a6 h0 f hf' p hp' (by omega) hc'
      · rw [if_neg hc]
        obtain ⟨nw1, ct1, an1, nu1, oa1, ou1, b1, b2, b3, b4, b5, b6⟩ := q_spread (ou := ou) hW hR hn he hN hf hp hnw hD hoa hB (kC_t.mpr hc)
        rw [q_bind b1]
        obtain ⟨nw', ct', an', nu', oa', ou', a1, a2, a3, a4, a5, a6⟩ := ih (k + 1) m nw1 ct1 an1 nu1 oa1 ou1 (by omega) b5.2.1 b3 b2 b4
        refine ⟨nw', ct', an', nu', oa', ou', a1, a2, a3, a4, RG_t b5 a5, fun h0 f hf' p hp' h hc' => ?_⟩
        have hl' := (hW.1 f hf').2.2.2
        by_cases e : 16 * f + p = k
        · obtain rfl : f = k / 16 := by omega
          obtain rfl : p = k % 16 := by omega
          obtain ⟨z1, z2⟩ := a5.2.2.1 h0
          exact Sat_m hf' hl' (hW.2.2.1 _ hf' _ hp') (fun g hg => (hW.1 g hg).2.1) (b6 z1) a5.1 (rle_e (z2 _ (by omega)).2)
        · exact a6 h0 f hf' p hp' (by omega) hc'
    · rw [if_pos (nI_le (by omega) (by omega))]
      obtain ⟨nw', ct', an', nu', oa', ou', a1, a2, a3, a4, a5, a6⟩ := ih (k + 1) m nw ct an nu oa ou (by omega) hnw hD hoa hB
      refine ⟨nw', ct', an', nu', oa', ou', a1, a2, a3, a4, a5, fun h0 f hf' p hp' h hc' => ?_⟩
      have hl' := (hW.1 f hf').2.2.2
      by_cases e : 16 * f + p = k
      · obtain rfl : f = k / 16 := by omega
        obtain rfl : p = k % 16 := by omega
        omega
      · exact a6 h0 f hf' p hp' (by omega) hc'
theorem q_98 {n : Nat} {ln pn : Nat → Nat} {F : Nat → Int32} {e : Nat} {en pc ls par len now tab : Nat → Int32} (hW : WP n pn ln pc ls F e en) (hR : RP n ln pn F e en par len now tab) (h0 : 0 < n) (hn : n ≤ 12) (he : e ≤ 4) {N : Nat} (hN : 20000 ≤ N) :
    ∀ (j fuel : Nat) (ct an nu oa ou : Nat → Int32), 7 * (17 * n) ≤ mu (17 * n) (kC ct an nu) + j → j + 2 ≤ fuel → DI n ct an nu → B01 6 oa → Bel n ln pn F e en (kC ct an nu) → (kC ct an nu).1 0 = true → rle (fun _ => some 0) ((kC ct an nu).2 0) →
      ∃ (ct' an' nu' oa' ou' : Nat → Int32), f_X8_learn_98 N (nI n) (nI e) par len now tab fuel 1 ct an nu oa ou = some (0, ct', an', nu', oa', ou') ∧ B01 6 oa' ∧ DI n ct' an' nu' ∧ Sol n ln pn F e en (kC ct' an' nu') ∧ Bel n ln pn F e en (kC ct' an' nu') := by
  intro j
  induction j with
  | zero =>
    intro fuel ct an nu oa ou hj hfu hD hoa hB hc hr
    obtain ⟨fuel, rfl⟩ : ∃ m, fuel = m + 1 + 1 := ⟨fuel - 2, by omega⟩
    obtain ⟨nw', ct', an', nu', oa', ou', a1, a2, a3, a4, a5, a6⟩ := q_pass hW hR hn he hN (f_X8_learn_98 N (nI n) (nI e) par len now tab (fuel + 1)) (16 * n) 0 (N - 16 * n - 1) 0 ct an nu oa ou (by omega) (Or.inl rfl) hD hoa hB
    rw [show N - 16 * n - 1 + 1 + 16 * n = N by omega] at a1
    obtain ⟨k1, k2⟩ := a5.1 0 (by omega) hc
    rcases a5.2.1 with h | h
    · refine ⟨ct', an', nu', oa', ou', ?_, a2, a3, ⟨k1, rle_t hr k2, fun f hf p hp hcc => a6 h f hf p hp (by omega) hcc⟩, a4⟩
      rw [f_X8_learn_98, if_neg (by decide)]
      refine a1.trans ?_
      rw [h, f_X8_learn_98, if_pos rfl]
    · rcases a5.2.2.2 (by rw [h]; decide) with x | x
      · exact absurd rfl x
      · have := mu_le (17 * n) (kC ct' an' nu')
        omega
  | succ j ih =>
    intro fuel ct an nu oa ou hj hfu hD hoa hB hc hr
    obtain ⟨fuel, rfl⟩ : ∃ m, fuel = m + 1 + 1 := ⟨fuel - 2, by omega⟩
    obtain ⟨nw', ct', an', nu', oa', ou', a1, a2, a3, a4, a5, a6⟩ := q_pass hW hR hn he hN (f_X8_learn_98 N (nI n) (nI e) par len now tab (fuel + 1)) (16 * n) 0 (N - 16 * n - 1) 0 ct an nu oa ou (by omega) (Or.inl rfl) hD hoa hB
    rw [show N - 16 * n - 1 + 1 + 16 * n = N by omega] at a1
    obtain ⟨k1, k2⟩ := a5.1 0 (by omega) hc
    rcases a5.2.1 with h | h
    · refine ⟨ct', an', nu', oa', ou', ?_, a2, a3, ⟨k1, rle_t hr k2, fun f hf p hp hcc => a6 h f hf p hp (by omega) hcc⟩, a4⟩
      rw [f_X8_learn_98, if_neg (by decide)]
      refine a1.trans ?_
      rw [h, f_X8_learn_98, if_pos rfl]
    · rcases a5.2.2.2 (by rw [h]; decide) with x | x
      · exact absurd rfl x
      · obtain ⟨ct2, an2, nu2, oa2, ou2, b1, b2⟩ := ih (fuel + 1) ct' an' nu' oa' ou' (by omega) (by omega) a3 a2 a4 k1 (rle_t hr k2)
        refine ⟨ct2, an2, nu2, oa2, ou2, ?_, b2⟩
        rw [f_X8_learn_98, if_neg (by decide)]
        refine a1.trans ?_
        rw [h]; exact b1
