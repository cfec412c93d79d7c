/-! PURE 14: the reference, one place -/
def RP (n : Nat) (ln pn : Nat → Nat) (F : Nat → Int32) (e : Nat) (en par len now tab : Nat → Int32) : Prop := (∀ f, f < n → par f = nI (pn f) ∧ len f = nI (ln f)) ∧ (∀ f, f < n → ∀ i, i < ln f → ∀ w, w < 6 → now (96 * f + 6 * i + w) = F (96 * f + 6 * i + w)) ∧ ∀ j, j < e → tab j = en j
theorem RP_rd {n : Nat} {ln pn : Nat → Nat} {F : Nat → Int32} {e : Nat} {en par len now tab : Nat → Int32} (hR : RP n ln pn F e en par len now tab) (hn : n ≤ 12) {f p w k : Nat} (hf : f < n) (hp : p < ln f) (hl : ln f ≤ 16) (hw : w < 6) (hk : k = 96 * f + 6 * p + w) : g_rd 1152 now (nI k) = some (F k) := by
  rw [q_rd (by omega) (by omega), hk, hR.2.1 f hf p hp w hw]
theorem q_enterR {n : Nat} {ln pn : Nat → Nat} {F : Nat → Int32} {e : Nat} {en pc ls par len now tab : Nat → Int32} (hW : WP n pn ln pc ls F e en) (hR : RP n ln pn F e en par len now tab) (hn : n ≤ 12) {N : Nat} (hN : 20000 ≤ N) {f p g : Nat} (hf : f < n) (hp : p < ln f) (hg : g < n) (hop : ∀ j, j < 3 → isOpd (F (96 * f + 6 * p + 3 + j))) {nw : Int32} (hnw : nw = 0 ∨ nw = 1) {ct an nu oa ou : Nat → Int32} (hD : DI n ct an nu) (hoa : B01 6 oa) (hB : Bel n ln pn F e en (kC ct an nu)) (hJ : Jus n ln pn F e en (17 * g) (ent pn F (96 * f + 6 * p) g (kV an nu (17 * f + p)))) :
    ∃ (nw' : Int32) (ct' an' nu' oa' ou' : Nat → Int32), f_X8_enter N (nI g) (nI (96 * f + 6 * p)) (nI (17 * f + p)) nw par len now ct an nu oa ou = some (nw', ct', an', nu', oa', ou') ∧ B01 6 oa' ∧ DI n ct' an' nu' ∧ Bel n ln pn F e en (kC ct' an' nu') ∧ RG n (kC ct an nu) nw (kC ct' an' nu') nw' ∧ (kC ct' an' nu').1 (17 * g) = true ∧ rle (ent pn F (96 * f + 6 * p) g (kV an nu (17 * f + p))) ((kC ct' an' nu').2 (17 * g)) := by
  obtain ⟨g1, g2, g3, g4⟩ := hW.1 g hg
  obtain ⟨l1, l2, l3, l4⟩ := hW.1 f hf
  have loop : ∀ (j r m : Nat) (oa ou : Nat → Int32), r + j = 6 → B01 6 oa → (∀ i, i < r → rV oa ou i = ent pn F (96 * f + 6 * p) g (kV an nu (17 * f + p)) i) → ∃ oa' ou' : Nat → Int32, B01 6 oa' ∧ (∀ i, i < 6 → rV oa' ou' i = ent pn F (96 * f + 6 * p) g (kV an nu (17 * f + p)) i) ∧ f_X8_enter_3 N (nI g) (nI (96 * f + 6 * p)) (nI (17 * f + p)) par len now (m + 1 + j) (nI r) nw ct an nu oa ou = (f_X8_come N (nI g) 0 nw len ct an nu oa' ou').bind (fun o15 => some (o15.1, o15.2.1, o15.2.2.1, o15.2.2.2, oa', ou')) := by
    intro j
    induction j with
    | zero =>
      intro r m oa ou hr hB' h
      obtain rfl : r = 6 := by omega
      exact ⟨oa, ou, hB', h, by rw [show m + 1 + 0 = m + 1 from rfl, f_X8_enter_3, if_pos (by decide)]⟩
    | succ j ih =>
      intro r m oa ou hr hB' h
      by_cases hpr : pn g ≤ r
      · obtain ⟨oa', ou', a, b, c⟩ := ih (r + 1) m (upd oa r 0) (upd ou r 0) (by omega) (B01_u hB' (Or.inl rfl)) (fun i hi => by
          rw [rV_N]
          by_cases e : i = r
          · subst e; rw [if_pos rfl]; unfold ent; rw [if_neg (by omega)]
          · rw [if_neg e]; exact h i (by omega))
        refine ⟨oa', ou', a, b, ?_⟩
        rw [show m + 1 + (j + 1) = m + 1 + j + 1 from rfl, f_X8_enter_3, if_neg (show ¬ 6 ≤ nI r from nI_ge (b := 6) (by omega) (by omega)), q_bind (q_rd (by omega) (by omega)), (hR.1 g hg).1, if_pos (nI_le hpr (by omega))]
        unfold f_X8_enter_26 f_X8_enter_48 f_X8_enter_76
        rw [if_pos rfl, if_pos rfl, q_bind (q_wz (by omega) (by omega) (Or.inl rfl)), if_pos rfl, q_bind (q_wr (by omega) (by omega)), nI_1, c]
      · have hlast : ∀ (oa1 ou1 : Nat → Int32), B01 6 oa1 → (∀ i, rV oa1 ou1 i = if i = r then opv (kV an nu (17 * f + p)) (F (96 * f + 6 * p + 3 + r)) else rV oa ou i) → f_X8_enter_3 N (nI g) (nI (96 * f + 6 * p)) (nI (17 * f + p)) par len now (m + 1 + (j + 1)) (nI r) nw ct an nu oa ou = f_X8_enter_3 N (nI g) (nI (96 * f + 6 * p)) (nI (17 * f + p)) par len now (m + 1 + j) (nI (r + 1)) nw ct an nu oa1 ou1 → ∃ oa' ou' : Nat → Int32, B01 6 oa' ∧ (∀ i, i < 6 → rV oa' ou' i = ent pn F (96 * f + 6 * p) g (kV an nu (17 * f + p)) i) ∧ f_X8_enter_3 N (nI g) (nI (96 * f + 6 * p)) (nI (17 * f + p)) par len now (m + 1 + (j + 1)) (nI r) nw ct an nu oa ou = (f_X8_come N (nI g) 0 nw len ct an nu oa' ou').bind (fun o15 => some (o15.1, o15.2.1, o15.2.2.1, o15.2.2.2, oa', ou')) := by
          intro oa1 ou1 b1 c1 d1
          obtain ⟨oa', ou', a, b, c⟩ := ih (r + 1) m oa1 ou1 (by omega) b1 (fun i hi => by
            rw [c1]
            by_cases e : i = r
            · subst e; rw [if_pos rfl]; unfold ent; rw [if_pos (by omega)]
            · rw [if_neg e]; exact h i (by omega))
          exact ⟨oa', ou', a, b, d1.trans c⟩
        have hnow : g_rd 1152 now (nI (96 * f + 6 * p) + 3 + nI r) = some (F (96 * f + 6 * p + 3 + r)) := by
          rw [show nI (96 * f + 6 * p) + 3 = nI (96 * f + 6 * p + 3) from nI_add _ 3, nI_add]
          exact RP_rd hR hn hf hp l4 (w := 3 + r) (by omega) (by omega)
        have hpre : f_X8_enter_3 N (nI g) (nI (96 * f + 6 * p)) (nI (17 * f + p)) par len now (m + 1 + (j + 1)) (nI r) nw ct an nu oa ou = f_X8_enter_48 N (f_X8_enter_3 N (nI g) (nI (96 * f + 6 * p)) (nI (17 * f + p)) par len now (m + 1 + j)) (nI g) (nI (96 * f + 6 * p)) (nI (17 * f + p)) par len now (nI r) 1 (F (96 * f + 6 * p + 3 + r)) nw ct an nu oa ou := by
          rw [show m + 1 + (j + 1) = m + 1 + j + 1 from rfl, f_X8_enter_3, if_neg (show ¬ 6 ≤ nI r from nI_ge (b := 6) (by omega) (by omega)), q_bind (q_rd (by omega) (by omega)), (hR.1 g hg).1, if_neg (nI_ge (by omega) (by omega))]
          unfold f_X8_enter_26
          rw [if_neg (by decide), q_bind hnow]
        rcases q_has (q := 17 * f + p) (by omega) (hop r (by omega)) an nu with ⟨a, _, b⟩ | ⟨y, a, _, _, b, c⟩
        · refine hlast (upd oa r 1) (upd ou r 0) (B01_u hB' (Or.inr rfl)) (fun i => by rw [rV_A, a]) ?_
          rw [hpre]
          unfold f_X8_enter_48 f_X8_enter_76
          rw [if_neg (by decide), q_bind b, if_pos rfl, q_bind (q_wz (by omega) (by omega) (Or.inr rfl)), if_neg (by decide), q_bind (q_rd (by omega) (by omega)), q_upd_s, if_neg (by decide), q_bind (q_wr (by omega) (by omega)), nI_1]
        · refine hlast (upd oa r 0) (upd ou r y) (B01_u hB' (Or.inl rfl)) (fun i => by rw [rV_N, a]) ?_
          rw [hpre]
          unfold f_X8_enter_48 f_X8_enter_76
          rw [if_neg (show ¬ (1 : Int32) = 0 by decide), q_bind b, if_neg (show ¬ (1 : Int32) = 0 by decide), q_bind (q_wz (by omega) (by omega) (Or.inl rfl)), if_neg (show ¬ (1 : Int32) = 0 by decide), q_bind (q_rd (by omega) (by omega)), q_upd_s, if_pos rfl, q_bind c, q_bind (q_wr (by omega) (by omega)), nI_1]
  obtain ⟨oa', ou', a, b, c⟩ := loop 6 0 (N - 7) oa ou rfl hoa (fun i hi => absurd hi (Nat.not_lt_zero i))
  rw [show N - 7 + 1 + 6 = N by omega] at c
  obtain ⟨nw', ct', an', nu', d1, d2, d3, d4, d5, d6⟩ := q_comeA (x := 0) (t := 17 * g) hN hn hg (by omega) (hR.1 g hg).2 g4 (by omega) hnw hD hB b hJ
  refine ⟨nw', ct', an', nu', oa', ou', ?_, a, d2, d3, d4, d5, d6⟩
  unfold f_X8_enter
  refine c.trans ?_
  rw [q_bind (show f_X8_come N (nI g) 0 nw len ct an nu oa' ou' = _ from d1)]
theorem q_callsR {n : Nat} {ln pn : Nat → Nat} {F : Nat → Int32} {e : Nat} {en pc ls par len now tab : Nat → Int32} (hW : WP n pn ln pc ls F e en) (hR : RP n ln pn F e en par len now tab) (hn : n ≤ 12) (he : e ≤ 4) {N : Nat} (hN : 20000 ≤ N) {f p op d : Nat} (hf : f < n) (hp : p < ln f) (hop : op = 10 ∨ op = 11) (hd : d < 6) (e0 : F (96 * f + 6 * p) = nI op) (e1 : F (96 * f + 6 * p + 1) = nI d) (hu : ∀ j, j < usesN op → isOpd (F (96 * f + 6 * p + 3 + j))) (h10 : op = 10 → ∃ g : Nat, g < n ∧ F (96 * f + 6 * p + 2) = nI g) (h11 : op = 11 → isOpd (F (96 * f + 6 * p + 2)))
    {nw : Int32} (hnw : nw = 0 ∨ nw = 1) {ct an nu oa ou : Nat → Int32} (hD : DI n ct an nu) (hoa : B01 6 oa) (hB : Bel n ln pn F e en (kC ct an nu)) (hc : (kC ct an nu).1 (17 * f + p) = true) :
    ∃ (nw' : Int32) (ct' an' nu' oa' ou' : Nat → Int32), f_X8_callAll N (nI (96 * f + 6 * p)) (nI (17 * f + p)) (nI e) nw par len now tab ct an nu oa ou = some (nw', ct', an', nu', oa', ou') ∧ B01 6 oa' ∧ DI n ct' an' nu' ∧ Bel n ln pn F e en (kC ct' an' nu') ∧ RG n (kC ct an nu) nw (kC ct' an' nu') nw' ∧ (nw' = 0 → ∀ t row, ArrC n pn F e en op (96 * f + 6 * p) ((kC ct' an' nu').2 (17 * f + p)) t row → (kC ct' an' nu').1 t = true ∧ rle row ((kC ct' an' nu').2 t)) := by
  obtain ⟨l1, l2, l3, l4⟩ := hW.1 f hf
  have hpn : ∀ g, g < n → pn g ≤ 3 := fun g hg => (hW.1 g hg).2.1
  have hws := hW.2.2.1 f hf p hp
  have hu3 : usesN op = 3 := by rcases hop with rfl | rfl <;> rfl
  have hu' : ∀ j, j < 3 → isOpd (F (96 * f + 6 * p + 3 + j)) := fun j hj => hu j (by omega)
  have r0 : g_rd 1152 now (nI (96 * f + 6 * p)) = some (nI op) := by rw [← e0]; exact RP_rd hR hn hf hp l4 (w := 0) (by omega) rfl
  have r2 : g_rd 1152 now (nI (96 * f + 6 * p) + 2) = some (F (96 * f + 6 * p + 2)) := by
    rw [show nI (96 * f + 6 * p) + 2 = nI (96 * f + 6 * p + 2) from nI_add _ 2]; exact RP_rd hR hn hf hp l4 (w := 2) (by omega) rfl
  unfold f_X8_callAll
  rw [q_bind r0]
  rcases hop with rfl | rfl
  · obtain ⟨g, hg, eg⟩ := h10 rfl
    have hA : Arr n ln pn F e en f p (kV an nu (17 * f + p)) (17 * g) (ent pn F (96 * f + 6 * p) g (kV an nu (17 * f + p))) := ⟨10, d, by omega, hd, e0, e1, Or.inl (Or.inl ⟨rfl, g, hg, eg, rfl, rfl⟩)⟩
    obtain ⟨nw', ct', an', nu', oa', ou', a1, a2, a3, a4, a5, a6, a7⟩ := q_enterR (ou := ou) hW hR hn hN hf hp hg hu' hnw hD hoa hB (Jus_arr hB hf hp l4 hws hpn hc hA)
    rw [if_pos (by decide), q_bind r2, eg, q_bind a1]
    refine ⟨nw', ct', an', nu', oa', ou', rfl, a2, a3, a4, a5, fun h0 t row ha => ?_⟩
    have b := ((a5.2.2.1 h0).2 (17 * f + p) (by omega)).2
    rcases ha with ⟨_, g', b1, b2, b3, b4⟩ | ⟨x, _⟩
    · obtain rfl : g' = g := (nI_eq (by omega) (by omega)).mp (b2.symm.trans eg)
      subst b3 b4
      exact ⟨a6, rle_t (ent_m hpn hg hu (Or.inl rfl) (rle_e b)) a7⟩
    · exact absurd x (by decide)
  · have hXo := h11 rfl
    rw [if_neg (by decide)]
    by_cases he0 : e = 0
    · obtain ⟨N', rfl⟩ : ∃ m, N = m + 1 := ⟨N - 1, by omega⟩
      rw [if_pos (show nI e ≤ 0 by rw [he0]; decide), f_X8_callAll_79, if_pos (show nI e ≤ 0 by rw [he0]; decide)]
      refine ⟨nw, ct, an, nu, oa, ou, rfl, hoa, hD, hB, RG_r _ _ hnw, fun h0 t row ha => ?_⟩
      rcases ha with ⟨x, _⟩ | ⟨_, i, g, h1, _⟩
      · exact absurd x (by decide)
      · omega
    · rw [if_neg (nI_nle (by omega) (by omega)), q_bind r2]
      rcases q_has (q := 17 * f + p) (by omega) hXo an nu with ⟨a, _, b⟩ | ⟨y, a, _, _, b, c⟩
      · rw [q_bind b, if_pos rfl]
        have loop : ∀ (j k m : Nat) (nw : Int32) (ct an nu oa ou : Nat → Int32), k + j = e → (nw = 0 ∨ nw = 1) → DI n ct an nu → B01 6 oa → Bel n ln pn F e en (kC ct an nu) → (kC ct an nu).1 (17 * f + p) = true → opv (kV an nu (17 * f + p)) (F (96 * f + 6 * p + 2)) = none →
            ∃ (nw' : Int32) (ct' an' nu' oa' ou' : Nat → Int32), f_X8_callAll_79 N (nI (96 * f + 6 * p)) (nI (17 * f + p)) (nI e) par len now tab (m + 1 + j) (nI k) nw ct an nu oa ou = some (nw', ct', an', nu', oa', ou') ∧ B01 6 oa' ∧ DI n ct' an' nu' ∧ Bel n ln pn F e en (kC ct' an' nu') ∧ RG n (kC ct an nu) nw (kC ct' an' nu') nw' ∧ (nw' = 0 → ∀ i g, k ≤ i → i < e → g < n → en i = nI g → (kC ct' an' nu').1 (17 * g) = true ∧ rle (ent pn F (96 * f + 6 * p) g (kV an' nu' (17 * f + p))) ((kC ct' an' nu').2 (17 * g))) := by
          intro j
          induction j with
          | zero =>
            intro k m nw ct an nu oa ou hk hnw hD hoa hB hc ho
            obtain rfl : k = e := by omega
            exact ⟨nw, ct, an, nu, oa, ou, by rw [show m + 1 + 0 = m + 1 from rfl, f_X8_callAll_79, if_pos (nI_le (by omega) (by omega))], hoa, hD, hB, RG_r _ _ hnw, fun _ i g h1 h2 => by omega⟩
          | succ j ih =>
            intro k m nw ct an nu oa ou hk hnw hD hoa hB hc ho
            obtain ⟨g, hg, eg⟩ := hW.2.2.2 k (by omega)
            have hA : Arr n ln pn F e en f p (kV an nu (17 * f + p)) (17 * g) (ent pn F (96 * f + 6 * p) g (kV an nu (17 * f + p))) := ⟨11, d, by omega, hd, e0, e1, Or.inl (Or.inr ⟨rfl, k, g, by omega, hg, eg, fun y hy => (by rw [ho] at hy; cases hy), rfl, rfl⟩)⟩
            obtain ⟨nw1, ct1, an1, nu1, oa1, ou1, a1, a2, a3, a4, a5, a6, a7⟩ := q_enterR (ou := ou) hW hR hn hN hf hp hg hu' hnw hD hoa hB (Jus_arr hB hf hp l4 hws hpn hc hA)
            obtain ⟨k1, k2⟩ := a5.1 (17 * f + p) (by omega) hc
            obtain ⟨nw', ct', an', nu', oa', ou', b1, b2, b3, b4, b5, b6⟩ := ih (k + 1) m nw1 ct1 an1 nu1 oa1 ou1 (by omega) a5.2.1 a3 a2 a4 k1 (vle_n (opv_m k2 hXo) ho)
            refine ⟨nw', ct', an', nu', oa', ou', ?_, b2, b3, b4, RG_t a5 b5, fun h0 i g' h1 h2 h3 h4 => ?_⟩
            · rw [show m + 1 + (j + 1) = m + 1 + j + 1 from rfl, f_X8_callAll_79, if_neg (nI_ge (by omega) (by omega)), q_bind (q_rd (by omega) (by omega)), hR.2.2 k (by omega), eg, q_bind a1, nI_1, b1]
            · have c := (((RG_t a5 b5).2.2.1 h0).2 (17 * f + p) (by omega)).2
              by_cases ei : i = k
              · subst ei
                obtain rfl : g' = g := (nI_eq (by omega) (by omega)).mp (h4.symm.trans eg)
                obtain ⟨d1, d2⟩ := b5.1 (17 * g') (by omega) a6
                exact ⟨d1, rle_t (ent_m hpn hg hu (Or.inr rfl) (rle_e c)) (rle_t a7 d2)⟩
              · exact b6 h0 i g' (by omega) h2 h3 h4
        obtain ⟨nw', ct', an', nu', oa', ou', b1, b2, b3, b4, b5, b6⟩ := loop e 0 (N - e - 1) nw ct an nu oa ou (by omega) hnw hD hoa hB hc a
        rw [show N - e - 1 + 1 + e = N by omega] at b1
        refine ⟨nw', ct', an', nu', oa', ou', b1, b2, b3, b4, b5, fun h0 t row ha => ?_⟩
        rcases ha with ⟨x, _⟩ | ⟨_, i, g, h1, h2, h3, h4, h5, h6⟩
        · exact absurd x (by decide)
        · subst h5 h6
          exact b6 h0 i g (by omega) h1 h2 h3
      · obtain ⟨j, hj, j1, j2⟩ := q_entryE (by omega) he y
        obtain ⟨g, hg, eg⟩ := hW.2.2.2 j hj
        have hA : Arr n ln pn F e en f p (kV an nu (17 * f + p)) (17 * g) (ent pn F (96 * f + 6 * p) g (kV an nu (17 * f + p))) := ⟨11, d, by omega, hd, e0, e1, Or.inl (Or.inr ⟨rfl, j, g, hj, hg, eg, fun y' hy => (by rw [a] at hy; cases hy; exact j1), rfl, rfl⟩)⟩
        obtain ⟨nw', ct', an', nu', oa', ou', a1, a2, a3, a4, a5, a6, a7⟩ := q_enterR (ou := ou) hW hR hn hN hf hp hg hu' hnw hD hoa hB (Jus_arr hB hf hp l4 hws hpn hc hA)
        rw [q_bind b, if_neg (by decide), q_bind r2, q_bind c, q_bind (j2 tab), hR.2.2 j hj, eg, q_bind a1]
        refine ⟨nw', ct', an', nu', oa', ou', rfl, a2, a3, a4, a5, fun h0 t row ha => ?_⟩
        have b' := ((a5.2.2.1 h0).2 (17 * f + p) (by omega)).2
        rcases ha with ⟨x, _⟩ | ⟨_, i, g', h1, h2, h3, h4, h5, h6⟩
        · exact absurd x (by decide)
        · have hy : opv ((kC ct' an' nu').2 (17 * f + p)) (F (96 * f + 6 * p + 2)) = some y := by
            have h := opv_m (rle_e b') hXo
            have k := opv_m (rle_e (fun r hr => (b' r hr).symm)) hXo
            exact (vle_a h k).trans a
          obtain rfl : i = j := isE_u (by omega) (by omega) (h4 y hy) j1
          obtain rfl : g' = g := (nI_eq (by omega) (by omega)).mp (h3.symm.trans eg)
          subst h5 h6
          exact ⟨a6, rle_t (ent_m hpn hg hu (Or.inr rfl) (rle_e b')) a7⟩
theorem q_192 {d : Nat} (hd : d < 6) {z : Int32} (hz : z = 0 ∨ z = 1) (N : Nat) (x1 x2 te x6 : Int32) (now an nu : Nat → Int32) {oa : Nat → Int32} (ou : Nat → Int32) (hoa : B01 6 oa) : ∃ oa' ou', f_X8_change_192 N x1 x2 te now an nu (nI d) x6 z (nI d) oa ou = some (oa', ou') ∧ B01 6 oa' ∧ ∀ i, rV oa' ou' i = if i = d then (if z = 0 then some x6 else none) else rV oa ou i := by
  unfold f_X8_change_192
  rw [q_bind (q_wz hd (by omega) hz), q_bind (q_rd hd (by omega)), q_upd_s]
  rcases hz with rfl | rfl
  · rw [if_pos rfl, q_bind (q_wr hd (by omega))]
    exact ⟨_, _, rfl, B01_u hoa (Or.inl rfl), fun i => by rw [rV_N, if_pos rfl]⟩
  · rw [if_neg (by decide), q_bind (q_wr hd (by omega))]
    exact ⟨_, _, rfl, B01_u hoa (Or.inr rfl), fun i => by rw [rV_A, if_neg (show ¬ (1 : Int32) = 0 by decide)]⟩
theorem q_160 {d : Nat} (hd : d < 6) (N : Nat) (x1 x2 te w : Int32) (now an nu : Nat → Int32) {oa : Nat → Int32} (ou : Nat → Int32) (hoa : B01 6 oa) : ∃ oa' ou', f_X8_change_160 N x1 x2 te now an nu (nI d) 1 w oa ou = some (oa', ou') ∧ B01 6 oa' ∧ ∀ i, rV oa' ou' i = if i = d then (if w < (-268435456) then none else if 268435455 < w then none else some w) else rV oa ou i := by
  unfold f_X8_change_160
  rw [if_neg (by decide)]
  by_cases c1 : w < (-268435456)
  · obtain ⟨oa', ou', a, b, c⟩ := q_192 hd (z := 1) (Or.inr rfl) N x1 x2 te w now an nu ou hoa
    exact ⟨oa', ou', by rw [if_pos c1, a], b, fun i => by rw [c, if_neg (show ¬ (1 : Int32) = 0 by decide), if_pos c1]⟩
  · by_cases c2 : 268435455 < w
    · obtain ⟨oa', ou', a, b, c⟩ := q_192 hd (z := 1) (Or.inr rfl) N x1 x2 te w now an nu ou hoa
      exact ⟨oa', ou', by rw [if_neg c1, if_neg (Int32.not_le.mpr c2), a], b, fun i => by rw [c, if_neg (show ¬ (1 : Int32) = 0 by decide), if_neg c1, if_pos c2]⟩
    · obtain ⟨oa', ou', a, b, c⟩ := q_192 hd (z := 0) (Or.inl rfl) N x1 x2 te w now an nu ou hoa
      exact ⟨oa', ou', by rw [if_neg c1, if_pos (Int32.not_lt.mp c2), a], b, fun i => by rw [c, if_pos rfl, if_neg c1, if_neg c2]⟩
theorem q_chR {n : Nat} {ln pn : Nat → Nat} {F : Nat → Int32} {e : Nat} {en pc ls par len now tab : Nat → Int32} (hW : WP n pn ln pc ls F e en) (hR : RP n ln pn F e en par len now tab) (hn : n ≤ 12) (he : e ≤ 4) {N : Nat} (hN : 20000 ≤ N) {f p op d : Nat} (hf : f < n) (hp : p < ln f) (hop : op ≤ 12) (hd : d < 6) (e0 : F (96 * f + 6 * p) = nI op) (e1 : F (96 * f + 6 * p + 1) = nI d) (hu : ∀ j, j < usesN op → isOpd (F (96 * f + 6 * p + 3 + j))) {an : Nat → Int32} (nu : Nat → Int32) {oa : Nat → Int32} (ou : Nat → Int32) (han : B01 1224 an) (hoa : B01 6 oa) :
    ∃ oa' ou', f_X8_change N (nI (96 * f + 6 * p)) (nI (17 * f + p)) (nI e) now an nu oa ou = some (oa', ou') ∧ B01 6 oa' ∧ ∀ i, i < 6 → rV oa' ou' i = chg e F op d (96 * f + 6 * p) (kV an nu (17 * f + p)) i := by
  obtain ⟨l1, l2, l3, l4⟩ := hW.1 f hf
  have loop : ∀ (j r m : Nat) (oa ou : Nat → Int32), r + j = 6 → B01 6 oa → (∀ i, i < r → rV oa ou i = kV an nu (17 * f + p) i) → ∃ oa' ou' : Nat → Int32, B01 6 oa' ∧ (∀ i, i < 6 → rV oa' ou' i = kV an nu (17 * f + p) i) ∧ f_X8_change_2 N (nI (96 * f + 6 * p)) (nI (17 * f + p)) (nI e) now an nu (m + 1 + j) (nI r) oa ou = f_X8_change_2 N (nI (96 * f + 6 * p)) (nI (17 * f + p)) (nI e) now an nu (m + 1) (nI 6) oa' ou' := by
    intro j
    induction j with
    | zero =>
      intro r m oa ou hr hB' h
      obtain rfl : r = 6 := by omega
      exact ⟨oa, ou, hB', h, rfl⟩
    | succ j ih =>
      intro r m oa ou hr hB' h
      have h01 := han (6 * (17 * f + p) + r) (by omega)
      obtain ⟨oa', ou', a, b, c⟩ := ih (r + 1) m (upd oa r (an (6 * (17 * f + p) + r))) (upd ou r (nu (6 * (17 * f + p) + r))) (by omega) (B01_u hB' h01) (fun i hi => by
        by_cases e : i = r
        · subst e; unfold rV kV; rw [q_upd_s, q_upd_s]
        · unfold rV; rw [q_upd_n e, q_upd_n e]; exact h i (by omega))
      refine ⟨oa', ou', a, b, ?_⟩
      rw [show m + 1 + (j + 1) = m + 1 + j + 1 from rfl, f_X8_change_2, if_neg (show ¬ 6 ≤ nI r from nI_ge (b := 6) (by omega) (by omega)), q_m6, nI_add, q_bind (q_rd (n := 1224) (f := an) (by omega) (by omega)), q_bind (q_wz (by omega) (by omega) h01), q_bind (q_rd (n := 1224) (f := nu) (by omega) (by omega)), q_bind (q_wr (by omega) (by omega)), nI_1, c]
  obtain ⟨oa1, ou1, b1, b2, b3⟩ := loop 6 0 (N - 7) oa ou rfl hoa (fun i hi => absurd hi (Nat.not_lt_zero i))
  rw [show N - 7 + 1 + 6 = N by omega] at b3
  have r0 : g_rd 1152 now (nI (96 * f + 6 * p)) = some (nI op) := by rw [← e0]; exact RP_rd hR hn hf hp l4 (w := 0) (by omega) rfl
  have r1 : g_rd 1152 now (nI (96 * f + 6 * p) + 1) = some (nI d) := by
    rw [show nI (96 * f + 6 * p) + 1 = nI (96 * f + 6 * p + 1) from nI_add _ 1, ← e1]; exact RP_rd hR hn hf hp l4 (w := 1) (by omega) rfl
  have r3 : g_rd 1152 now (nI (96 * f + 6 * p) + 3) = some (F (96 * f + 6 * p + 3)) := by
    rw [show nI (96 * f + 6 * p) + 3 = nI (96 * f + 6 * p + 3) from nI_add _ 3]; exact RP_rd hR hn hf hp l4 (w := 3) (by omega) rfl
  have r4 : g_rd 1152 now (nI (96 * f + 6 * p) + 4) = some (F (96 * f + 6 * p + 4)) := by
    rw [show nI (96 * f + 6 * p) + 4 = nI (96 * f + 6 * p + 4) from nI_add _ 4]; exact RP_rd hR hn hf hp l4 (w := 4) (by omega) rfl
  have ne : ∀ j : Nat, j < 100 → op ≠ j → ¬ nI op = nI j := fun j hj h q => h ((nI_eq (by omega) (by omega)).mp q)
  have fin : ∀ {X : Option ((Nat → Int32) × (Nat → Int32))} {val : Option Int32}, f_X8_change_2 N (nI (96 * f + 6 * p)) (nI (17 * f + p)) (nI e) now an nu (N - 7 + 1) (nI 6) oa1 ou1 = X → (∃ oa' ou', X = some (oa', ou') ∧ B01 6 oa' ∧ ∀ i, rV oa' ou' i = if i = d then val else rV oa1 ou1 i) → chg e F op d (96 * f + 6 * p) (kV an nu (17 * f + p)) d = val → ∃ oa' ou', f_X8_change N (nI (96 * f + 6 * p)) (nI (17 * f + p)) (nI e) now an nu oa ou = some (oa', ou') ∧ B01 6 oa' ∧ ∀ i, i < 6 → rV oa' ou' i = chg e F op d (96 * f + 6 * p) (kV an nu (17 * f + p)) i := by
    intro X val hX ⟨oa', ou', c1, c2, c3⟩ hv
    refine ⟨oa', ou', ?_, c2, fun i hi => ?_⟩
    · unfold f_X8_change
      exact b3.trans (hX.trans c1)
    · rw [c3]
      by_cases e : i = d
      · subst e; rw [if_pos rfl, hv]
      · rw [if_neg e, b2 i hi]; unfold chg; rw [if_neg e]
  have pre : f_X8_change_2 N (nI (96 * f + 6 * p)) (nI (17 * f + p)) (nI e) now an nu (N - 7 + 1) (nI 6) oa1 ou1 = if 4 < nI op then if nI op = 5 then f_X8_change_236 N (nI (96 * f + 6 * p)) (nI (17 * f + p)) (nI e) now an nu (nI op) (nI d) oa1 ou1 else if nI op = 10 then f_X8_change_236 N (nI (96 * f + 6 * p)) (nI (17 * f + p)) (nI e) now an nu (nI op) (nI d) oa1 ou1 else if nI op = 11 then f_X8_change_236 N (nI (96 * f + 6 * p)) (nI (17 * f + p)) (nI e) now an nu (nI op) (nI d) oa1 ou1 else some (oa1, ou1) else (f_X8_has (nI (17 * f + p)) (F (96 * f + 6 * p + 3)) an).bind (fun o33 => if o33 = 0 then f_X8_change_111 N (nI (96 * f + 6 * p)) (nI (17 * f + p)) (nI e) now an nu (nI op) (nI d) 0 oa1 ou1 else if nI op = 0 then f_X8_change_111 N (nI (96 * f + 6 * p)) (nI (17 * f + p)) (nI e) now an nu (nI op) (nI d) 1 oa1 ou1 else (f_X8_has (nI (17 * f + p)) (F (96 * f + 6 * p + 4)) an).bind (fun o37 => if o37 = 0 then f_X8_change_111 N (nI (96 * f + 6 * p)) (nI (17 * f + p)) (nI e) now an nu (nI op) (nI d) 0 oa1 ou1 else f_X8_change_111 N (nI (96 * f + 6 * p)) (nI (17 * f + p)) (nI e) now an nu (nI op) (nI d) 1 oa1 ou1)) := by
    rw [f_X8_change_2, if_pos (show 6 ≤ nI 6 by decide), q_bind r0, q_bind r1, q_bind r3, q_bind r4]
  have anyX : ∀ z : Int32, (z = 0 ∨ z = 1) → ∀ {x : Option ((Nat → Int32) × (Nat → Int32))}, x = (g_wz 6 oa1 (nI d) z).bind (fun s => (g_wr 6 ou1 (nI d) 0).bind (fun s' => some (s, s'))) → ∃ oa' ou', x = some (oa', ou') ∧ B01 6 oa' ∧ ∀ i, rV oa' ou' i = if i = d then (if z = 0 then some 0 else none) else rV oa1 ou1 i := by
    intro z hz x hx
    rw [hx, q_bind (q_wz hd (by omega) hz), q_bind (q_wr hd (by omega))]
    refine ⟨_, _, rfl, B01_u b1 hz, fun i => ?_⟩
    rcases hz with rfl | rfl
    · rw [rV_N, if_pos rfl]
    · rw [rV_A, if_neg (show ¬ (1 : Int32) = 0 by decide)]
  by_cases h4 : op ≤ 4
  · have hA : isOpd (F (96 * f + 6 * p + 3)) := hu 0 (by
      rcases (show op = 0 ∨ op = 1 ∨ op = 2 ∨ op = 3 ∨ op = 4 by omega) with rfl | rfl | rfl | rfl | rfl <;> decide)
    rw [if_neg (show ¬ 4 < nI op from nI_nlt (a := 4) h4 (by omega))] at pre
    have no : f_X8_change_111 N (nI (96 * f + 6 * p)) (nI (17 * f + p)) (nI e) now an nu (nI op) (nI d) 0 oa1 ou1 = f_X8_change_192 N (nI (96 * f + 6 * p)) (nI (17 * f + p)) (nI e) now an nu (nI d) 0 1 (nI d) oa1 ou1 := by
      unfold f_X8_change_111 f_X8_change_160
      rw [if_pos rfl, if_pos rfl]
    have nov : ∀ {val : Option Int32}, val = none → ∃ oa' ou', f_X8_change_192 N (nI (96 * f + 6 * p)) (nI (17 * f + p)) (nI e) now an nu (nI d) 0 1 (nI d) oa1 ou1 = some (oa', ou') ∧ B01 6 oa' ∧ ∀ i, rV oa' ou' i = if i = d then val else rV oa1 ou1 i := by
      intro val hv
      obtain ⟨oa', ou', c1, c2, c3⟩ := q_192 hd (z := 1) (Or.inr rfl) N (nI (96 * f + 6 * p)) (nI (17 * f + p)) (nI e) 0 now an nu ou1 b1
      exact ⟨oa', ou', c1, c2, fun i => by rw [c3, hv, if_neg (show ¬ (1 : Int32) = 0 by decide)]⟩
    rcases q_has (q := 17 * f + p) (by omega) hA an nu with ⟨a, _, b⟩ | ⟨y, a, _, _, b, c⟩
    · rw [q_bind b, if_pos rfl, no] at pre
      refine fin pre (nov rfl) ?_
      unfold chg
      rw [if_pos rfl, a]
      by_cases h0 : op = 0
      · rw [if_pos h0]; rfl
      · rw [if_neg h0, if_pos h4]; rfl
    · rw [q_bind b, if_neg (show ¬ (1 : Int32) = 0 by decide)] at pre
      by_cases h0 : op = 0
      · subst h0
        obtain ⟨w, hw⟩ := reck_s (nI 0) y 0
        rw [if_pos (by decide)] at pre
        unfold f_X8_change_111 at pre
        rw [if_neg (show ¬ (1 : Int32) = 0 by decide), q_bind r3, q_bind c, if_pos (by decide), q_bind hw] at pre
        refine fin pre (q_160 hd N _ _ _ w now an nu ou1 b1) ?_
        unfold chg
        rw [if_pos rfl, if_pos rfl, a]
        show (f_X8_reckon (nI 0) y 0).bind (fun w => if w < (-268435456) then none else if 268435455 < w then none else some w) = _
        rw [hw]; rfl
      · have h2 : usesN op = 2 := by
          rcases (show op = 1 ∨ op = 2 ∨ op = 3 ∨ op = 4 by omega) with rfl | rfl | rfl | rfl <;> rfl
        have hB : isOpd (F (96 * f + 6 * p + 4)) := hu 1 (by omega)
        rw [if_neg (nI_ne0 (by omega) (by omega))] at pre
        rcases q_has (q := 17 * f + p) (by omega) hB an nu with ⟨a', _, b'⟩ | ⟨y', a', _, _, b', c'⟩
        · rw [q_bind b', if_pos rfl, no] at pre
          refine fin pre (nov rfl) ?_
          unfold chg
          rw [if_pos rfl, a, a', if_neg h0, if_pos h4]; rfl
        · obtain ⟨w, hw⟩ := reck_s (nI op) y y'
          rw [q_bind b', if_neg (show ¬ (1 : Int32) = 0 by decide)] at pre
          unfold f_X8_change_111 at pre
          rw [if_neg (show ¬ (1 : Int32) = 0 by decide), q_bind r3, q_bind c, if_neg (nI_ne0 (by omega) (by omega)), q_bind r4, q_bind c', q_bind hw] at pre
          refine fin pre (q_160 hd N _ _ _ w now an nu ou1 b1) ?_
          unfold chg
          rw [if_pos rfl, if_neg h0, if_pos h4, a, a']
          show (f_X8_reckon (nI op) y y').bind (fun w => if w < (-268435456) then none else if 268435455 < w then none else some w) = _
          rw [hw]; rfl
  · rw [if_pos (show 4 < nI op from nI_lt (a := 4) (by omega) (by omega))] at pre
    by_cases h5 : op = 5
    · rw [if_pos (show nI op = 5 by rw [h5]; rfl)] at pre
      unfold f_X8_change_236 at pre
      rw [if_neg (show ¬ nI op = 11 from ne 11 (by omega) (by omega))] at pre
      refine fin pre (anyX 1 (Or.inr rfl) rfl) ?_
      unfold chg
      rw [if_pos rfl, if_neg (by omega), if_neg h4, if_pos (Or.inl h5), if_neg (show ¬ (1 : Int32) = 0 by decide)]
    · rw [if_neg (show ¬ nI op = 5 from ne 5 (by omega) h5)] at pre
      by_cases h10 : op = 10
      · rw [if_pos (show nI op = 10 by rw [h10]; rfl)] at pre
        unfold f_X8_change_236 at pre
        rw [if_neg (show ¬ nI op = 11 from ne 11 (by omega) (by omega))] at pre
        refine fin pre (anyX 1 (Or.inr rfl) rfl) ?_
        unfold chg
        rw [if_pos rfl, if_neg (by omega), if_neg h4, if_pos (Or.inr h10), if_neg (show ¬ (1 : Int32) = 0 by decide)]
      · rw [if_neg (show ¬ nI op = 10 from ne 10 (by omega) h10)] at pre
        by_cases h11 : op = 11
        · rw [if_pos (show nI op = 11 by rw [h11]; rfl)] at pre
          unfold f_X8_change_236 at pre
          rw [if_pos (show nI op = 11 by rw [h11]; rfl)] at pre
          by_cases he0 : e = 0
          · rw [if_pos (show nI e ≤ 0 by rw [he0]; decide)] at pre
            refine fin pre (anyX 0 (Or.inl rfl) rfl) ?_
            unfold chg
            rw [if_pos rfl, if_neg (by omega), if_neg h4, if_neg (by omega), if_pos h11, if_pos he0, if_pos rfl]
          · rw [if_neg (nI_nle (by omega) (by omega))] at pre
            refine fin pre (anyX 1 (Or.inr rfl) rfl) ?_
            unfold chg
            rw [if_pos rfl, if_neg (by omega), if_neg h4, if_neg (by omega), if_pos h11, if_neg he0, if_neg (show ¬ (1 : Int32) = 0 by decide)]
        · rw [if_neg (show ¬ nI op = 11 from ne 11 (by omega) h11)] at pre
          refine fin pre ⟨oa1, ou1, rfl, b1, fun i => ?_⟩ rfl
          by_cases e : i = d
          · rw [if_pos e, e, b2 d hd, chg_k (by omega)]
          · rw [if_neg e]
