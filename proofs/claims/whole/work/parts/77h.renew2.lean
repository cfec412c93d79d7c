/-! PURE 22: one statement is renewed, on both sides alike -/
theorem q_bs {α : Type} {x : Option α} : (x.bind (fun o => some o)) = x := by cases x <;> rfl
theorem q_renew {n : Nat} {ln pn : Nat → Nat} {F : Nat → Int32} {e : Nat} {en pc ls : Nat → Int32} (hW : WP n pn ln pc ls F e en) (hn : n ≤ 12) (he : e ≤ 4) {N : Nat} (hN : 20000 ≤ N) {ct an nu ct' an' nu' : Nat → Int32} (hK : KE n ct an nu ct' an' nu') {f i : Nat} (hf : f < n) (hi : i < ln f) {ls' G now anew tab : Nat → Int32} (hls : ls' f = nI (ln f)) (hG : ∀ w, w < 6 → G (96 * f + 6 * i + w) = F (96 * f + 6 * i + w)) (hnow : ∀ w, w < 6 → now (96 * f + 6 * i + w) = F (96 * f + 6 * i + w)) (htab : ∀ j, j < e → tab j = en j) :
    ∃ G' A' : Nat → Int32, f_X3_renew N (nI f) (nI i) (nI e) ls' G en ct an nu = some G' ∧ f_X8_renew N (nI f) (nI i) (nI e) now anew tab ct' an' nu' = some A' ∧ (∀ w, w < 6 → A' (96 * f + 6 * i + w) = G' (96 * f + 6 * i + w)) ∧ (∀ x, x < 96 * f + 6 * i ∨ 96 * f + 6 * i + 6 ≤ x → G' x = G x ∧ A' x = anew x) ∧ WS n G' (96 * f + 6 * i) := by
  obtain ⟨l1, l2, l3, l4⟩ := hW.1 f hf
  obtain ⟨op, d, hop, hd, e0, e1, hu, h78, h10, h11⟩ := hW.2.2.1 f hf i hi
  have hu3 : usesN op ≤ 3 := (q_uses op hop).2.2
  have hKq := hK (17 * f + i) (by omega)
  have pl : f_X4_placeOf (nI f) (nI i) ls' = some (nI (17 * f + i)) := by
    have := q_placeOf (p := i) (ls := ls') (ln := ln) (show f < 12 by omega) (by omega) hls l4
    rw [show min i (ln f) = i by omega] at this; exact this
  have put : ∀ (w : Nat) (x : Int32) (H : Nat → Int32), w < 6 → f_X4_putField (nI f) (nI i) (nI w) x H = some (upd H (96 * f + 6 * i + w) x) := fun w x H hw => q_putField (by omega) (by omega) hw
  have fld : ∀ (w : Nat) (H : Nat → Int32), w < 6 → f_X4_fieldOf (nI f) (nI i) (nI w) H = some (H (96 * f + 6 * i + w)) := fun w H hw => q_fieldOf (by omega) (by omega) hw
  obtain ⟨A1, a1, a2, a3⟩ := q_rn21 (f := f) (i := i) (by omega) (by omega) N (nI f) (nI i) (nI e) (A0 := anew) (now := now) (tab := tab) (ct' := ct') (an' := an') (nu' := nu') 6 0 (N - 6 - 1) anew (by omega) (fun w hw => by omega) (fun _ _ => rfl)
  rw [show N - 6 - 1 + 1 + 6 = N by omega] at a3
  have hRef : f_X8_renew N (nI f) (nI i) (nI e) now anew tab ct' an' nu' = if ct' (17 * f + i) = 0 then some (upd A1 (96 * f + 6 * i) 12) else f_X8_renew_82 N (nI f) (nI i) (nI e) now tab ct' an' nu' N (nI (96 * f + 6 * i)) (nI (17 * f + i)) (now (96 * f + 6 * i)) (nI 2) A1 := by
    unfold f_X8_renew; rw [q_960, q_17]; exact a3
  have w0 : ∀ (H : Nat → Int32) (x : Int32), upd H (96 * f + 6 * i) x (96 * f + 6 * i) = x := fun H x => q_upd_s
  have w1 : ∀ (H : Nat → Int32) (x : Int32) (w : Nat), w ≠ 0 → upd H (96 * f + 6 * i) x (96 * f + 6 * i + w) = H (96 * f + 6 * i + w) := fun H x w hw => q_upd_n (by omega)
  by_cases hc : ct (17 * f + i) = 0
  · refine ⟨upd G (96 * f + 6 * i) 12, upd A1 (96 * f + 6 * i) 12, ?_, by rw [hRef, ← hKq.1, if_pos hc], fun w hw => ?_, fun x hx => ⟨q_upd_n (by omega), by rw [q_upd_n (by omega)]; exact a2 x hx⟩, ?_⟩
    · unfold f_X3_renew
      rw [q_bind pl, q_bind (q_rd (by omega) (by omega)), if_pos hc, q_bind (show f_X4_putField (nI f) (nI i) 0 12 G = _ from put 0 12 G (by omega))]
      rfl
    · by_cases hw0 : w = 0
      · subst hw0; exact (w0 _ _).trans (w0 _ _).symm
      · rw [w1 _ _ w hw0, w1 _ _ w hw0, a1 w hw, hG w hw, hnow w hw]
    · exact ⟨12, d, by omega, hd, w0 _ _, by rw [w1 _ _ 1 (by omega), hG 1 (by omega)]; exact e1, fun j hj => absurd hj (Nat.not_lt_zero j), fun h => by omega, fun h => by omega, fun h => by omega⟩
  · have hrow := hKq.2 hc
    obtain ⟨G1, g1, g2, g3⟩ := q_rn47 (f := f) (i := i) (op := op) (by omega) (by omega) hop N (nI e) (ls := ls') (G0 := G) (F := F) (en := en) (ct := ct) (an := an) (nu := nu) pl hu (usesN op) 0 (N - usesN op - 1) G (by omega) (fun w hw => by rw [hG w hw]; exact (if_neg (by omega)).symm) (fun _ _ => rfl)
    rw [show N - usesN op - 1 + 1 + usesN op = N by omega] at g3
    have hC : f_X3_renew N (nI f) (nI i) (nI e) ls' G en ct an nu = if nI op = 7 then (f_X3_renewIf (nI f) (nI i) G1).bind (fun o7 => some o7) else if nI op = 11 then (f_X3_renewOperand (nI f) (nI i) 2 ls' G1 an nu).bind (fun o5 => (f_X3_renewTableCall (nI f) (nI i) (nI e) o5 en).bind (fun o6 => some o6)) else some G1 := by
      rw [← g3]
      unfold f_X3_renew
      rw [q_bind pl, q_bind (q_rd (n := 204) (f := ct) (by omega) (by omega)), if_neg hc, q_bind (show f_X4_fieldOf (nI f) (nI i) 0 G = _ from fld 0 G (by omega)), show G (96 * f + 6 * i + 0) = nI op from (hG 0 (by omega)).trans e0]
      rfl
    obtain ⟨A2, b1, b2, b3⟩ := q_rn82 (f := f) (i := i) (op := op) (by omega) (by omega) hop N (nI f) (nI i) (nI e) (F := F) (A0 := anew) (now := now) (tab := tab) (ct' := ct') (an := an) (nu := nu) (an' := an') (nu' := nu') hrow hnow hu h11 4 2 (N - 4 - 1) A1 (by omega) (by omega) (fun w hw => by
      rw [a1 w hw, hnow w hw]
      by_cases h2 : w < 2
      · rw [if_pos h2]; exact (if_neg (by omega)).symm
      · rw [if_neg h2]) a2
    rw [show N - 4 - 1 + 1 + 4 = N by omega] at b3
    have hR : f_X8_renew N (nI f) (nI i) (nI e) now anew tab ct' an' nu' = if nI op = 7 then (g_rd 1152 A2 (nI (96 * f + 6 * i) + 3)).bind (fun v23 => (f_X8_isNumber v23).bind (fun o24 => if o24 = 0 then f_X8_renew_232 N (nI f) (nI i) (nI e) now tab ct' an' nu' (nI (96 * f + 6 * i)) (nI op) A2 else (g_rd 1152 A2 (nI (96 * f + 6 * i) + 3)).bind (fun v26 => if (v26 >>> (3 &&& 31)) = 0 then (g_wr 1152 A2 (nI (96 * f + 6 * i)) 12).bind (fun s28 => f_X8_renew_232 N (nI f) (nI i) (nI e) now tab ct' an' nu' (nI (96 * f + 6 * i)) (nI op) s28) else (g_wr 1152 A2 (nI (96 * f + 6 * i)) 8).bind (fun s29 => f_X8_renew_232 N (nI f) (nI i) (nI e) now tab ct' an' nu' (nI (96 * f + 6 * i)) (nI op) s29)))) else f_X8_renew_232 N (nI f) (nI i) (nI e) now tab ct' an' nu' (nI (96 * f + 6 * i)) (nI op) A2 := by
      rw [hRef, ← hKq.1, if_neg hc, show now (96 * f + 6 * i) = nI op from (hnow 0 (by omega)).trans e0, b3, f_X8_renew_82, if_pos (show (6 : Int32) ≤ 6 by decide)]
    have q0 : G1 (96 * f + 6 * i) = nI op := ((g1 0 (by omega)).trans (if_neg (by omega))).trans e0
    have q1 : G1 (96 * f + 6 * i + 1) = nI d := ((g1 1 (by omega)).trans (if_neg (by omega))).trans e1
    have q2 : G1 (96 * f + 6 * i + 2) = F (96 * f + 6 * i + 2) := (g1 2 (by omega)).trans (if_neg (by omega))
    have q3 : ∀ j, j < usesN op → isOpd (G1 (96 * f + 6 * i + 3 + j)) := fun j hj => by
      rw [show 96 * f + 6 * i + 3 + j = 96 * f + 6 * i + (3 + j) by omega, g1 (3 + j) (by omega)]
      unfold rnw
      rw [if_pos (Or.inl ⟨by omega, by omega⟩), ← Nat.add_assoc]
      exact rnv_o (hu j hj)
    by_cases h7 : op = 7
    · subst h7
      rw [if_pos (show nI 7 = 7 from rfl)] at hC hR
      have same : ∀ w, w < 6 → A2 (96 * f + 6 * i + w) = G1 (96 * f + 6 * i + w) := fun w hw => by
        rw [b1 w hw, g1 w hw]
        unfold rnw
        by_cases hcc : (3 ≤ w ∧ w < 3 + usesN 7) ∨ (w = 2 ∧ 7 = 11)
        · rw [if_pos hcc, if_pos (by omega)]
        · rw [if_neg hcc, if_neg (by omega)]
      have r3 : g_rd 1152 A2 (nI (96 * f + 6 * i) + 3) = some (G1 (96 * f + 6 * i + 3)) := by
        rw [show nI (96 * f + 6 * i) + 3 = nI (96 * f + 6 * i + 3) from nI_add _ 3, q_rd (by omega) (by omega), same 3 (by omega)]
      have t232 : ∀ H : Nat → Int32, f_X8_renew_232 N (nI f) (nI i) (nI e) now tab ct' an' nu' (nI (96 * f + 6 * i)) (nI 7) H = some H := fun H => by
        unfold f_X8_renew_232; rw [if_neg (by decide)]
      have hC2 : (f_X3_renewIf (nI f) (nI i) G1).bind (fun o7 => some o7) = (f_X7_isNumber (G1 (96 * f + 6 * i + 3))).bind (fun o2 => if o2 = 0 then some G1 else if (G1 (96 * f + 6 * i + 3) >>> (3 &&& 31)) = 0 then some (upd G1 (96 * f + 6 * i) 12) else some (upd G1 (96 * f + 6 * i) 8)) := by
        unfold f_X3_renewIf
        rw [q_bind (show f_X4_fieldOf (nI f) (nI i) 3 G1 = _ from fld 3 G1 (by omega)), q_bind (show f_X4_putField (nI f) (nI i) 0 12 G1 = _ from put 0 12 G1 (by omega)), q_bind (show f_X4_putField (nI f) (nI i) 0 8 G1 = _ from put 0 8 G1 (by omega)), q_bs]
        rfl
      rw [hC2] at hC
      rw [q_bind r3, t232, q_bind r3, q_bind (q_wr (n := 1152) (f := A2) (by omega) (by omega)), q_bind (q_wr (n := 1152) (f := A2) (by omega) (by omega)), t232, t232] at hR
      by_cases hz : G1 (96 * f + 6 * i + 3) &&& 7 = 7
      · have n7 : f_X7_isNumber (G1 (96 * f + 6 * i + 3)) = some 1 := by unfold f_X7_isNumber; rw [if_pos hz]
        have n8 : f_X8_isNumber (G1 (96 * f + 6 * i + 3)) = some 1 := by unfold f_X8_isNumber; rw [if_pos hz]
        rw [q_bind n7, if_neg (show ¬ (1 : Int32) = 0 by decide)] at hC
        rw [q_bind n8, if_neg (show ¬ (1 : Int32) = 0 by decide)] at hR
        have fin : ∀ o : Nat, (o = 12 ∨ o = 8) → f_X3_renew N (nI f) (nI i) (nI e) ls' G en ct an nu = some (upd G1 (96 * f + 6 * i) (nI o)) → f_X8_renew N (nI f) (nI i) (nI e) now anew tab ct' an' nu' = some (upd A2 (96 * f + 6 * i) (nI o)) → ∃ G' A' : Nat → Int32, f_X3_renew N (nI f) (nI i) (nI e) ls' G en ct an nu = some G' ∧ f_X8_renew N (nI f) (nI i) (nI e) now anew tab ct' an' nu' = some A' ∧ (∀ w, w < 6 → A' (96 * f + 6 * i + w) = G' (96 * f + 6 * i + w)) ∧ (∀ x, x < 96 * f + 6 * i ∨ 96 * f + 6 * i + 6 ≤ x → G' x = G x ∧ A' x = anew x) ∧ WS n G' (96 * f + 6 * i) := fun o ho x1 x2 => by
          refine ⟨_, _, x1, x2, fun w hw => ?_, fun x hx => ⟨by rw [q_upd_n (by omega)]; exact g2 x hx, by rw [q_upd_n (by omega)]; exact b2 x hx⟩, o, d, by omega, hd, w0 _ _, by rw [w1 _ _ 1 (by omega)]; exact q1, fun j hj => ?_, fun _ => ?_, fun h => by omega, fun h => by omega⟩
          · by_cases hw0 : w = 0
            · subst hw0; exact (w0 _ _).trans (w0 _ _).symm
            · rw [w1 _ _ w hw0, w1 _ _ w hw0]; exact same w hw
          · rcases ho with rfl | rfl
            · exact absurd hj (Nat.not_lt_zero j)
            · exact absurd hj (Nat.not_lt_zero j)
          · obtain ⟨x, y1, y2⟩ := h78 (Or.inl rfl)
            exact ⟨x, y1, by rw [w1 _ _ 2 (by omega), q2]; exact y2⟩
        by_cases hz0 : (G1 (96 * f + 6 * i + 3) >>> (3 &&& 31)) = 0
        · rw [if_pos hz0] at hC hR
          exact fin 12 (Or.inl rfl) hC hR
        · rw [if_neg hz0] at hC hR
          exact fin 8 (Or.inr rfl) hC hR
      · have n7 : f_X7_isNumber (G1 (96 * f + 6 * i + 3)) = some 0 := by unfold f_X7_isNumber; rw [if_neg hz]
        have n8 : f_X8_isNumber (G1 (96 * f + 6 * i + 3)) = some 0 := by unfold f_X8_isNumber; rw [if_neg hz]
        rw [q_bind n7, if_pos rfl] at hC
        rw [q_bind n8, if_pos rfl] at hR
        exact ⟨G1, A2, hC, hR, same, fun x hx => ⟨g2 x hx, b2 x hx⟩, 7, d, by omega, hd, q0, q1, q3, fun h => by rw [q2]; exact h78 h, fun h => by omega, fun h => by omega⟩
    · rw [if_neg (show ¬ nI op = 7 from fun q => h7 ((nI_eq (b := 7) (by omega) (by omega)).mp q))] at hC hR
      by_cases h11' : op = 11
      · subst h11'
        rw [if_pos (show nI 11 = 11 from rfl)] at hC
        obtain ⟨G2, p1, p2, p3⟩ := q_rnO (f := f) (i := i) (w := 2) (an := an) (nu := nu) (by omega) (by omega) (by omega) pl (G := G1) (by rw [q2]; exact h11 rfl)
        rw [q_bind (show f_X3_renewOperand (nI f) (nI i) 2 ls' G1 an nu = _ from p1)] at hC
        have p2' : G2 (96 * f + 6 * i + 2) = rnv (kV an nu (17 * f + i)) (F (96 * f + 6 * i + 2)) := by rw [p2, q2]
        have same : ∀ w, w < 6 → A2 (96 * f + 6 * i + w) = G2 (96 * f + 6 * i + w) := fun w hw => by
          by_cases hw2 : w = 2
          · subst hw2
            rw [p2', b1 2 (by omega)]; exact if_pos (Or.inr ⟨rfl, rfl⟩)
          · rw [p3 _ (by omega), b1 w hw, g1 w hw]
            unfold rnw
            by_cases hcc : (3 ≤ w ∧ w < 3 + usesN 11) ∨ (w = 2 ∧ 11 = 11)
            · rw [if_pos hcc, if_pos (by omega)]
            · rw [if_neg hcc, if_neg (by omega)]
        have out : ∀ x, x < 96 * f + 6 * i ∨ 96 * f + 6 * i + 6 ≤ x → G2 x = G x := fun x hx => by rw [p3 x (by omega)]; exact g2 x hx
        have r2 : g_rd 1152 A2 (nI (96 * f + 6 * i) + 2) = some (G2 (96 * f + 6 * i + 2)) := by
          rw [show nI (96 * f + 6 * i) + 2 = nI (96 * f + 6 * i + 2) from nI_add _ 2, q_rd (by omega) (by omega), same 2 (by omega)]
        have z0 : G2 (96 * f + 6 * i) = nI 11 := by rw [p3 _ (by omega)]; exact q0
        have z1 : G2 (96 * f + 6 * i + 1) = nI d := by rw [p3 _ (by omega)]; exact q1
        have z3 : ∀ j, j < 3 → isOpd (G2 (96 * f + 6 * i + 3 + j)) := fun j hj => by rw [p3 _ (by omega)]; exact q3 j hj
        have z2 : isOpd (G2 (96 * f + 6 * i + 2)) := by rw [p2']; exact rnv_o (h11 rfl)
        unfold f_X8_renew_232 at hR
        rw [if_pos (show nI 11 = 11 from rfl), q_bind r2] at hR
        unfold f_X3_renewTableCall at hC
        rw [q_bind (show f_X4_fieldOf (nI f) (nI i) 2 G2 = _ from fld 2 G2 (by omega))] at hC
        by_cases hz : G2 (96 * f + 6 * i + 2) &&& 7 = 7
        · have n7 : f_X7_isNumber (G2 (96 * f + 6 * i + 2)) = some 1 := by unfold f_X7_isNumber; rw [if_pos hz]
          have n8 : f_X8_isNumber (G2 (96 * f + 6 * i + 2)) = some 1 := by unfold f_X8_isNumber; rw [if_pos hz]
          rw [q_bind n7, if_neg (show ¬ (1 : Int32) = 0 by decide)] at hC
          rw [q_bind n8, if_neg (show ¬ (1 : Int32) = 0 by decide)] at hR
          by_cases he0 : e = 0
          · subst he0
            have x1 : f_X4_entryFor (G2 (96 * f + 6 * i + 2) >>> (3 &&& 31)) (nI 0) en = some (-1) := by unfold f_X4_entryFor; rw [if_pos (by decide)]
            rw [q_bind x1, if_pos rfl, q_bind (show f_X4_putField (nI f) (nI i) 0 0 G2 = _ from put 0 0 G2 (by omega)), q_bind (show f_X7_operandOf 0 = some (opo 0) from rfl), q_bind (show f_X4_putField (nI f) (nI i) 3 (opo 0) (upd G2 (96 * f + 6 * i + 0) 0) = _ from put 3 _ _ (by omega)), q_bs] at hC
            unfold f_X8_renew_272 at hR
            rw [if_pos (show nI 0 = 0 from rfl), q_bind (q_wr (by omega) (by omega)), if_pos (show nI 0 = 0 from rfl), q_bind (show f_X8_operandOf 0 = some (opo 0) from rfl), show nI (96 * f + 6 * i) + 3 = nI (96 * f + 6 * i + 3) from nI_add _ 3, q_bind (q_wr (by omega) (by omega))] at hR
            refine ⟨upd (upd G2 (96 * f + 6 * i) 0) (96 * f + 6 * i + 3) (opo 0), upd (upd A2 (96 * f + 6 * i) 0) (96 * f + 6 * i + 3) (opo 0), hC, hR, fun w hw => ?_, fun x hx => ⟨by rw [q_upd_n (by omega), q_upd_n (by omega)]; exact out x hx, by rw [q_upd_n (by omega), q_upd_n (by omega)]; exact b2 x hx⟩, 0, d, by omega, hd, by rw [q_upd_n (by omega), q_upd_s]; rfl, by rw [q_upd_n (by omega), q_upd_n (by omega)]; exact z1, fun j hj => ?_, fun h => by omega, fun h => by omega, fun h => by omega⟩
            · by_cases hw3 : w = 3
              · subst hw3; rw [q_upd_s, q_upd_s]
              · rw [q_upd_n (by omega), q_upd_n (show 96 * f + 6 * i + w ≠ 96 * f + 6 * i + 3 by omega)]
                by_cases hw0 : w = 0
                · subst hw0; exact (w0 _ _).trans (w0 _ _).symm
                · rw [w1 _ _ w hw0, w1 _ _ w hw0]; exact same w hw
            · have : j = 0 := by
                have : j < 1 := hj
                omega
              subst this
              rw [show 96 * f + 6 * i + 3 + 0 = 96 * f + 6 * i + 3 from rfl, q_upd_s]; exact isOpd_o 0
          · obtain ⟨j, hj, hE, hT⟩ := q_entryE (e := e) (by omega) he (G2 (96 * f + 6 * i + 2) >>> (3 &&& 31))
            obtain ⟨g', hg', eg⟩ := hW.2.2.2 j hj
            have x1 := hE en
            have x2 := hT tab
            rw [eg] at x1
            rw [htab j hj, eg] at x2
            have hne : ¬ nI g' = (-1) := fun q => by
              have := nI_pos' (n := g') (by omega)
              rw [q] at this; exact absurd this (by decide)
            rw [q_bind x1, if_neg hne, q_bind (show f_X4_putField (nI f) (nI i) 0 10 G2 = _ from put 0 10 G2 (by omega)), q_bind (show f_X4_putField (nI f) (nI i) 2 (nI g') (upd G2 (96 * f + 6 * i + 0) 10) = _ from put 2 _ _ (by omega)), q_bs] at hC
            unfold f_X8_renew_272 at hR
            rw [if_neg (nI_ne0 (by omega) (by omega)), q_bind (q_wr (by omega) (by omega)), if_neg (nI_ne0 (by omega) (by omega)), show nI (96 * f + 6 * i) + 2 = nI (96 * f + 6 * i + 2) from nI_add _ 2, q_bind (q_rd (by omega) (by omega)), w1 _ _ 2 (by omega), same 2 (by omega), q_bind x2, q_bind (q_wr (by omega) (by omega))] at hR
            refine ⟨upd (upd G2 (96 * f + 6 * i) 10) (96 * f + 6 * i + 2) (nI g'), upd (upd A2 (96 * f + 6 * i) 10) (96 * f + 6 * i + 2) (nI g'), hC, hR, fun w hw => ?_, fun x hx => ⟨by rw [q_upd_n (by omega), q_upd_n (by omega)]; exact out x hx, by rw [q_upd_n (by omega), q_upd_n (by omega)]; exact b2 x hx⟩, 10, d, by omega, hd, by rw [q_upd_n (by omega), q_upd_s]; rfl, by rw [q_upd_n (by omega), q_upd_n (by omega)]; exact z1, fun j hj => ?_, fun h => by omega, fun h => ⟨g', hg', q_upd_s⟩, fun h => by omega⟩
            · by_cases hw3 : w = 2
              · subst hw3; rw [q_upd_s, q_upd_s]
              · rw [q_upd_n (by omega), q_upd_n (show 96 * f + 6 * i + w ≠ 96 * f + 6 * i + 2 by omega)]
                by_cases hw0 : w = 0
                · subst hw0; exact (w0 _ _).trans (w0 _ _).symm
                · rw [w1 _ _ w hw0, w1 _ _ w hw0]; exact same w hw
            · have : j < 3 := hj
              rw [q_upd_n (by omega), q_upd_n (by omega)]; exact z3 j this
        · have n7 : f_X7_isNumber (G2 (96 * f + 6 * i + 2)) = some 0 := by unfold f_X7_isNumber; rw [if_neg hz]
          have n8 : f_X8_isNumber (G2 (96 * f + 6 * i + 2)) = some 0 := by unfold f_X8_isNumber; rw [if_neg hz]
          rw [q_bind n7, if_pos rfl, q_bs] at hC
          rw [q_bind n8, if_pos rfl] at hR
          exact ⟨G2, A2, hC, hR, same, fun x hx => ⟨out x hx, b2 x hx⟩, 11, d, by omega, hd, z0, z1, fun j hj => z3 j hj, fun h => by omega, fun h => by omega, fun _ => z2⟩
      · have hne : ¬ nI op = 11 := fun q => h11' ((nI_eq (b := 11) (by omega) (by omega)).mp q)
        rw [if_neg hne] at hC
        unfold f_X8_renew_232 at hR
        rw [if_neg hne] at hR
        refine ⟨G1, A2, hC, hR, fun w hw => ?_, fun x hx => ⟨g2 x hx, b2 x hx⟩, op, d, hop, hd, q0, q1, q3, fun h => by rw [q2]; exact h78 h, fun h => by rw [q2]; exact h10 h, fun h => absurd h h11'⟩
        rw [b1 w hw, g1 w hw]
        unfold rnw
        by_cases hcc : (3 ≤ w ∧ w < 3 + usesN op) ∨ (w = 2 ∧ op = 11)
        · rw [if_pos hcc, if_pos (by omega)]
        · rw [if_neg hcc, if_neg (by omega)]
