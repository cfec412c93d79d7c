theorem in_X7 : ∀ w ∈ wsX70, w ∈ gw := by decide +kernel
theorem fl_X7_12 : Cond.fieldLink RX7 12 (TX7 0).1 (TX7 0).2.1 (TX7 0).2.2.1 ∈ gw := gw_i 257 (by decide +kernel) rfl
theorem yk_X4_hasFunction : g_Y yX4_hasFunction cX4_hasFunction 2 (some .boolean) 1 := ⟨gw_i 390 (by decide +kernel) rfl, gw_i 57 (by decide +kernel) rfl, by decide +kernel, by decide +kernel, by decide +kernel⟩
theorem lk_X7_69 : Cond.methodLink RX7 69 yX4_hasFunction ∈ gw := gw_i 387 (by decide +kernel) rfl
theorem iv_X4_hasFunction : Cond.instanceMethod yX4_hasFunction ∈ gw ∧ Cond.selects RX4 yX4_hasFunction yX4_hasFunction ∈ gw := ⟨gw_i 388 (by decide +kernel) rfl, gw_i 389 (by decide +kernel) rfl⟩
theorem fl_X7_58 : Cond.fieldLink RX7 58 (TX7 7).1 (TX7 7).2.1 (TX7 7).2.2.1 ∈ gw := gw_i 264 (by decide +kernel) rfl
theorem fl_X7_75 : Cond.fieldLink RX7 75 (TX4 0).1 (TX4 0).2.1 (TX4 0).2.2.1 ∈ gw := gw_i 88 (by decide +kernel) rfl
theorem fl_X7_16 : Cond.fieldLink RX7 16 (TX7 1).1 (TX7 1).2.1 (TX7 1).2.2.1 ∈ gw := gw_i 258 (by decide +kernel) rfl
theorem fl_X7_54 : Cond.fieldLink RX7 54 (TX7 6).1 (TX7 6).2.1 (TX7 6).2.2.1 ∈ gw := gw_i 263 (by decide +kernel) rfl
theorem yk_X2_addInput : g_Y yX2_addInput cX2_addInput 2 (some .int) 1 := ⟨gw_i 289 (by decide +kernel) rfl, gw_i 63 (by decide +kernel) rfl, by decide +kernel, by decide +kernel, by decide +kernel⟩
theorem lk_X7_130 : Cond.methodLink RX7 130 yX2_addInput ∈ gw := gw_i 286 (by decide +kernel) rfl
theorem iv_X2_addInput : Cond.instanceMethod yX2_addInput ∈ gw ∧ Cond.selects RX2 yX2_addInput yX2_addInput ∈ gw := ⟨gw_i 287 (by decide +kernel) rfl, gw_i 288 (by decide +kernel) rfl⟩
theorem yk_X2_dropInputs : g_Y yX2_dropInputs cX2_dropInputs 1 (none : Option Jvm.ClassFile.FieldType) 0 := ⟨gw_i 297 (by decide +kernel) rfl, gw_i 63 (by decide +kernel) rfl, by decide +kernel, by decide +kernel, by decide +kernel⟩
theorem lk_X7_133 : Cond.methodLink RX7 133 yX2_dropInputs ∈ gw := gw_i 294 (by decide +kernel) rfl
theorem iv_X2_dropInputs : Cond.instanceMethod yX2_dropInputs ∈ gw ∧ Cond.selects RX2 yX2_dropInputs yX2_dropInputs ∈ gw := ⟨gw_i 295 (by decide +kernel) rfl, gw_i 296 (by decide +kernel) rfl⟩
theorem fl_X7_45 : Cond.fieldLink RX7 45 (TX7 5).1 (TX7 5).2.1 (TX7 5).2.2.1 ∈ gw := gw_i 262 (by decide +kernel) rfl
theorem fl_X7_189 : Cond.fieldLink RX7 189 (TX6 0).1 (TX6 0).2.1 (TX6 0).2.2.1 ∈ gw := gw_i 199 (by decide +kernel) rfl
theorem fl_X7_192 : Cond.fieldLink RX7 192 (TX6 1).1 (TX6 1).2.1 (TX6 1).2.2.1 ∈ gw := gw_i 201 (by decide +kernel) rfl
abbrev w_X7_isFitX (cI cZ cJ : ClassId) (a_t : Nat) (a_tb : Nat) (a_ta : Nat) (a_tk : Nat) (a_tf : Nat) (a_tg : Nat) (a_ty : Nat) (a_th : Nat) (a_tb_parameterCounts : Nat) (a_tb_lengths : Nat) (a_tb_fields : Nat) (a_tb_entries : Nat) (t_analysed : Int32) (tb_functionCount : Int32) (tb_entryCount : Int32) : va_W := [(a_t, .inr (7, [.ref a_tb, .ref a_ta, .ref a_tk, .ref a_tf, .ref a_tg, .ref a_ty, .ref a_th, .int t_analysed])), (a_tb, .inr (4, [.int tb_functionCount, .int tb_entryCount, .ref a_tb_parameterCounts, .ref a_tb_lengths, .ref a_tb_fields, .ref a_tb_entries]))]
abbrev r_X7_isFitX : Room := { frames := 2, cells := 0, slots := 0, locals := 40 }
def f_X7_isFitX (x1 : Int32) (x2 : Int32) (tb_functionCount : Int32) : Option (Int32) := if x1 = 7 then if x2 < 0 then some 0 else if 16 < x2 then some 0 else some 1 else if x1 = 8 then if x2 < 0 then some 0 else if 16 < x2 then some 0 else some 1 else if x1 = 10 then (f_X4_hasFunction x2 tb_functionCount).bind (fun o8 => (g_zr o8).bind (fun v9 => some v9)) else if x1 = 11 then (f_X7_isOperand x2).bind (fun o11 => (g_zr o11).bind (fun v12 => some v12)) else some 1
set_option maxHeartbeats 4000000 in
set_option maxRecDepth 100000 in
theorem k_X7_isFitX (l : Launch) (tA : Nat) (dC : Nat → ClassId) (dI : Nat → Nat → Nat) (cI cZ cJ : ClassId) (a_t : Nat) (a_tb : Nat) (a_ta : Nat) (a_tk : Nat) (a_tf : Nat) (a_tg : Nat) (a_ty : Nat) (a_th : Nat) (a_tb_parameterCounts : Nat) (a_tb_lengths : Nat) (a_tb_fields : Nat) (a_tb_entries : Nat) (x1 : Int32) (x2 : Int32) (t_analysed : Int32) (tb_functionCount : Int32) (tb_entryCount : Int32) (out : Int32) (hf : f_X7_isFitX x1 x2 tb_functionCount = some out) : g_Mi l yX7_isFitX cX7_isFitX 3 (some .boolean) r_X7_isFitX tA dC dI cI cZ cJ [.ref a_t, .int x1, .int x2] (w_X7_isFitX cI cZ cJ a_t a_tb a_ta a_tk a_tf a_tg a_ty a_th a_tb_parameterCounts a_tb_lengths a_tb_fields a_tb_entries t_analysed tb_functionCount tb_entryCount) (w_X7_isFitX cI cZ cJ a_t a_tb a_ta a_tk a_tf a_tg a_ty a_th a_tb_parameterCounts a_tb_lengths a_tb_fields a_tb_entries t_analysed tb_functionCount tb_entryCount) out := by
  unfold f_X7_isFitX at hf
  refine ge_i (by decide) (Nat.le_of_ble_eq_true rfl) (fun p e s m below meth c A H locs ls hC hW hl => ?_)
  have hC : g_C p s m meth c _ cX7_isFitX 3 (some .boolean) RX7 := hC
  have hx := hC.1
  have hb := hC.2.1
  have hown := hC.2.2.2.2.1
  have hts := hC.2.2.2.2.2.1
  have hl : lv_has ls 3 [(0, .ref a_t), (1, .int x1), (2, .int x2)] := hl
  refine lv_iload_n hx hb dX7_isFitX_0 rfl (lv_at hl 1 rfl) ?_
  by_cases c1 : x1 = 7
  · replace hf := (if_pos c1).symm.trans hf
    refine lv_tableIn (off := 35) (tgt := 36) hx hb dX7_isFitX_1 (by rw [c1]; decide) (by rw [c1]; decide) (by rw [c1]; decide) (by decide) ?_
    refine lv_iload_n hx hb dX7_isFitX_36 rfl (lv_at hl 2 rfl) ?_
    refine lv_if_lt (tgt := 50) hx hb dX7_isFitX_37 (by decide) (fun c2 => ?_) (fun c2 => ?_)
    · replace hf := (if_pos c2).symm.trans hf
      refine lv_iconst (v := 0) hx hb dX7_isFitX_50 (by decide) ?_
      obtain rfl := Option.some.inj hf
      exact gs_rz hC hW rfl g_n0 dX7_isFitX_51
    · replace hf := (if_neg c2).symm.trans hf
      refine lv_iload_n hx hb dX7_isFitX_40 rfl (lv_at hl 2 rfl) ?_
      refine lv_bipush (v := 16) hx hb dX7_isFitX_41 (by decide) ?_
      refine lv_icmp_gt (tgt := 50) hx hb dX7_isFitX_43 (by decide) (fun c3 => ?_) (fun c3 => ?_)
      · replace hf := (if_pos c3).symm.trans hf
        refine lv_iconst (v := 0) hx hb dX7_isFitX_50 (by decide) ?_
        obtain rfl := Option.some.inj hf
        exact gs_rz hC hW rfl g_n0 dX7_isFitX_51
      · replace hf := (if_neg c3).symm.trans hf
        refine lv_iconst (v := 1) hx hb dX7_isFitX_46 (by decide) ?_
        refine lv_goto (tgt := 51) hx hb dX7_isFitX_47 (by decide) ?_
        obtain rfl := Option.some.inj hf
        exact gs_rz hC hW rfl g_n1 dX7_isFitX_51
  · replace hf := (if_neg c1).symm.trans hf
    by_cases c4 : x1 = 8
    · replace hf := (if_pos c4).symm.trans hf
      refine lv_tableIn (off := 35) (tgt := 36) hx hb dX7_isFitX_1 (by rw [c4]; decide) (by rw [c4]; decide) (by rw [c4]; decide) (by decide) ?_
      refine lv_iload_n hx hb dX7_isFitX_36 rfl (lv_at hl 2 rfl) ?_
      refine lv_if_lt (tgt := 50) hx hb dX7_isFitX_37 (by decide) (fun c5 => ?_) (fun c5 => ?_)
      · replace hf := (if_pos c5).symm.trans hf
        refine lv_iconst (v := 0) hx hb dX7_isFitX_50 (by decide) ?_
        obtain rfl := Option.some.inj hf
        exact gs_rz hC hW rfl g_n0 dX7_isFitX_51
      · replace hf := (if_neg c5).symm.trans hf
        refine lv_iload_n hx hb dX7_isFitX_40 rfl (lv_at hl 2 rfl) ?_
        refine lv_bipush (v := 16) hx hb dX7_isFitX_41 (by decide) ?_
        refine lv_icmp_gt (tgt := 50) hx hb dX7_isFitX_43 (by decide) (fun c6 => ?_) (fun c6 => ?_)
        · replace hf := (if_pos c6).symm.trans hf
          refine lv_iconst (v := 0) hx hb dX7_isFitX_50 (by decide) ?_
          obtain rfl := Option.some.inj hf
          exact gs_rz hC hW rfl g_n0 dX7_isFitX_51
        · replace hf := (if_neg c6).symm.trans hf
          refine lv_iconst (v := 1) hx hb dX7_isFitX_46 (by decide) ?_
          refine lv_goto (tgt := 51) hx hb dX7_isFitX_47 (by decide) ?_
          obtain rfl := Option.some.inj hf
          exact gs_rz hC hW rfl g_n1 dX7_isFitX_51
    · replace hf := (if_neg c4).symm.trans hf
      by_cases c7 : x1 = 10
      · replace hf := (if_pos c7).symm.trans hf
        refine lv_tableIn (off := 51) (tgt := 52) hx hb dX7_isFitX_1 (by rw [c7]; decide) (by rw [c7]; decide) (by rw [c7]; decide) (by decide) ?_
        refine lv_aload_n hx hb dX7_isFitX_52 rfl (lv_at hl 0 rfl) ?_
        refine gs_get hC hW in_X7 0 0 rfl rfl (by decide) fl_X7_12 rfl dX7_isFitX_53 ?_
        refine lv_iload_n hx hb dX7_isFitX_56 rfl (lv_at hl 2 rfl) ?_
        obtain ⟨o8, h8, hf⟩ := g_bnd hf
        refine gs_callVi (ws' := w_X7_isFitX cI cZ cJ a_t a_tb a_ta a_tk a_tf a_tg a_ty a_th a_tb_parameterCounts a_tb_lengths a_tb_fields a_tb_entries t_analysed tb_functionCount tb_entryCount) hC hW (k_X4_hasFunction l tA dC dI cI cZ cJ a_tb a_tb_parameterCounts a_tb_lengths a_tb_fields a_tb_entries x2 tb_functionCount tb_entryCount _ h8) yk_X4_hasFunction lk_X7_69 iv_X4_hasFunction ⟨rfl, rfl⟩ ⟨Nat.le_of_ble_eq_true rfl, Nat.le_of_ble_eq_true rfl⟩ hl.1 1 rfl rfl [1] [0] [0, 1] rfl rfl rfl rfl (by decide) rfl rfl rfl rfl (Nat.le_of_ble_eq_true rfl) dX7_isFitX_57 ⟨Nat.zero_le _, Nat.zero_le _⟩ (fun H locs hW => ?_)
        obtain ⟨v9, h9, hf⟩ := g_bnd hf
        obtain ⟨rfl, hn, -⟩ := g_zr_ok h9
        obtain rfl := Option.some.inj hf
        exact gs_rz hC hW rfl hn dX7_isFitX_60
      · replace hf := (if_neg c7).symm.trans hf
        by_cases c10 : x1 = 11
        · replace hf := (if_pos c10).symm.trans hf
          refine lv_tableIn (off := 60) (tgt := 61) hx hb dX7_isFitX_1 (by rw [c10]; decide) (by rw [c10]; decide) (by rw [c10]; decide) (by decide) ?_
          refine lv_iload_n hx hb dX7_isFitX_61 rfl (lv_at hl 2 rfl) ?_
          obtain ⟨o11, h11, hf⟩ := g_bnd hf
          refine gs_callSi (ws' := w_X7_isFitX cI cZ cJ a_t a_tb a_ta a_tk a_tf a_tg a_ty a_th a_tb_parameterCounts a_tb_lengths a_tb_fields a_tb_entries t_analysed tb_functionCount tb_entryCount) hC hW (k_X7_isOperand l tA dC dI cI cZ cJ x2 _ h11) yk_X7_isOperand lk_X7_221 is_X7_isOperand ⟨rfl, rfl⟩ ⟨Nat.le_of_ble_eq_true rfl, Nat.le_of_ble_eq_true rfl⟩ hl.1 [] [0, 1] [0, 1] rfl rfl rfl rfl (by decide) rfl rfl rfl rfl (Nat.le_of_ble_eq_true rfl) dX7_isFitX_62 ⟨Nat.zero_le _, Nat.zero_le _⟩ (fun H locs hW => ?_)
          obtain ⟨v12, h12, hf⟩ := g_bnd hf
          obtain ⟨rfl, hn, -⟩ := g_zr_ok h12
          obtain rfl := Option.some.inj hf
          exact gs_rz hC hW rfl hn dX7_isFitX_65
        · replace hf := (if_neg c10).symm.trans hf
          refine gs_tblD (n := 5) (tgt := 66) hx hb dX7_isFitX_1 (by decide) (by decide) (fun j hj h9 => ?_) ?_
          · rcases (show j = 0 ∨ j = 1 ∨ j = 2 ∨ j = 3 ∨ j = 4 by omega) with rfl | rfl | rfl | rfl | rfl
            · exact absurd (g_ti (k := 7) h9 (by decide)) c1
            · exact absurd (g_ti (k := 8) h9 (by decide)) c4
            · decide
            · exact absurd (g_ti (k := 10) h9 (by decide)) c7
            · exact absurd (g_ti (k := 11) h9 (by decide)) c10
          · refine lv_iconst (v := 1) hx hb dX7_isFitX_66 (by decide) ?_
            obtain rfl := Option.some.inj hf
            exact gs_rz hC hW rfl g_n1 dX7_isFitX_67

abbrev w_X7_functions (cI cZ cJ : ClassId) (a_t : Nat) (a_tb : Nat) (a_ta : Nat) (a_tk : Nat) (a_tf : Nat) (a_tg : Nat) (a_ty : Nat) (a_th : Nat) (a_tb_parameterCounts : Nat) (a_tb_lengths : Nat) (a_tb_fields : Nat) (a_tb_entries : Nat) (a_ta_parameterCounts : Nat) (a_ta_lengths : Nat) (a_ta_fields : Nat) (a_ta_entries : Nat) (t_analysed : Int32) (tb_functionCount : Int32) (tb_entryCount : Int32) (ta_functionCount : Int32) (ta_entryCount : Int32) : va_W := [(a_t, .inr (7, [.ref a_tb, .ref a_ta, .ref a_tk, .ref a_tf, .ref a_tg, .ref a_ty, .ref a_th, .int t_analysed])), (a_tb, .inr (4, [.int tb_functionCount, .int tb_entryCount, .ref a_tb_parameterCounts, .ref a_tb_lengths, .ref a_tb_fields, .ref a_tb_entries])), (a_ta, .inr (4, [.int ta_functionCount, .int ta_entryCount, .ref a_ta_parameterCounts, .ref a_ta_lengths, .ref a_ta_fields, .ref a_ta_entries]))]
abbrev r_X7_functions : Room := { frames := 0, cells := 0, slots := 0, locals := 0 }
def f_X7_functions (t_analysed : Int32) (tb_functionCount : Int32) (ta_functionCount : Int32) : Option (Int32) := if t_analysed = 0 then some tb_functionCount else some ta_functionCount
set_option maxHeartbeats 4000000 in
set_option maxRecDepth 100000 in
theorem k_X7_functions (l : Launch) (tA : Nat) (dC : Nat → ClassId) (dI : Nat → Nat → Nat) (cI cZ cJ : ClassId) (a_t : Nat) (a_tb : Nat) (a_ta : Nat) (a_tk : Nat) (a_tf : Nat) (a_tg : Nat) (a_ty : Nat) (a_th : Nat) (a_tb_parameterCounts : Nat) (a_tb_lengths : Nat) (a_tb_fields : Nat) (a_tb_entries : Nat) (a_ta_parameterCounts : Nat) (a_ta_lengths : Nat) (a_ta_fields : Nat) (a_ta_entries : Nat) (t_analysed : Int32) (tb_functionCount : Int32) (tb_entryCount : Int32) (ta_functionCount : Int32) (ta_entryCount : Int32) (out : Int32) (hf : f_X7_functions t_analysed tb_functionCount ta_functionCount = some out) : g_Mi l yX7_functions cX7_functions 1 (some .int) r_X7_functions tA dC dI cI cZ cJ [.ref a_t] (w_X7_functions cI cZ cJ a_t a_tb a_ta a_tk a_tf a_tg a_ty a_th a_tb_parameterCounts a_tb_lengths a_tb_fields a_tb_entries a_ta_parameterCounts a_ta_lengths a_ta_fields a_ta_entries t_analysed tb_functionCount tb_entryCount ta_functionCount ta_entryCount) (w_X7_functions cI cZ cJ a_t a_tb a_ta a_tk a_tf a_tg a_ty a_th a_tb_parameterCounts a_tb_lengths a_tb_fields a_tb_entries a_ta_parameterCounts a_ta_lengths a_ta_fields a_ta_entries t_analysed tb_functionCount tb_entryCount ta_functionCount ta_entryCount) out := by
  unfold f_X7_functions at hf
  refine ge_i (by decide) (Nat.le_of_ble_eq_true rfl) (fun p e s m below meth c A H locs ls hC hW hl => ?_)
  have hC : g_C p s m meth c _ cX7_functions 1 (some .int) RX7 := hC
  have hx := hC.1
  have hb := hC.2.1
  have hown := hC.2.2.2.2.1
  have hts := hC.2.2.2.2.2.1
  have hl : lv_has ls 1 [(0, .ref a_t)] := hl
  refine lv_aload_n hx hb dX7_functions_0 rfl (lv_at hl 0 rfl) ?_
  refine gs_get hC hW in_X7 0 7 rfl rfl (by decide) fl_X7_58 rfl dX7_functions_1 ?_
  refine lv_if_eq (tgt := 17) hx hb dX7_functions_4 (by decide) (fun c1 => ?_) (fun c1 => ?_)
  · replace hf := (if_pos c1).symm.trans hf
    refine lv_aload_n hx hb dX7_functions_17 rfl (lv_at hl 0 rfl) ?_
    refine gs_get hC hW in_X7 0 0 rfl rfl (by decide) fl_X7_12 rfl dX7_functions_18 ?_
    refine gs_get hC hW in_X4 1 0 rfl rfl (by decide) fl_X7_75 rfl dX7_functions_21 ?_
    obtain rfl := Option.some.inj hf
    exact gs_ri hC hW rfl dX7_functions_24
  · replace hf := (if_neg c1).symm.trans hf
    refine lv_aload_n hx hb dX7_functions_7 rfl (lv_at hl 0 rfl) ?_
    refine gs_get hC hW in_X7 0 1 rfl rfl (by decide) fl_X7_16 rfl dX7_functions_8 ?_
    refine gs_get hC hW in_X4 2 0 rfl rfl (by decide) fl_X7_75 rfl dX7_functions_11 ?_
    refine lv_goto (tgt := 24) hx hb dX7_functions_14 (by decide) ?_
    obtain rfl := Option.some.inj hf
    exact gs_ri hC hW rfl dX7_functions_24

abbrev w_X7_input (cI cZ cJ : ClassId) (a_t : Nat) (a_th : Nat) (a_th_inputs : Nat) (a_tb : Nat) (a_ta : Nat) (a_tk : Nat) (a_tf : Nat) (a_tg : Nat) (a_ty : Nat) (a_old : Nat) (a_th_openFunctions : Nat) (a_th_openStatements : Nat) (a_th_registers : Nat) (t_analysed : Int32) (th_inputCount : Int32) (th_inputsRead : Int32) (th_openCount : Int32) (th_inputs : Nat → Int32) : va_W := [(a_t, .inr (7, [.ref a_tb, .ref a_ta, .ref a_tk, .ref a_tf, .ref a_tg, .ref a_ty, .ref a_th, .int t_analysed])), (a_th, .inr (2, [.ref a_old, .ref a_ty, .ref a_th_inputs, .int th_inputCount, .int th_inputsRead, .ref a_th_openFunctions, .ref a_th_openStatements, .ref a_th_registers, .int th_openCount])), (a_th_inputs, .inl (cI, 12, .inl th_inputs))]
abbrev r_X7_input : Room := { frames := 1, cells := 0, slots := 0, locals := 21 }
def f_X7_input (x1 : Int32) (th_inputCount : Int32) (th_inputs : Nat → Int32) : Option (Int32 × Int32 × (Nat → Int32)) := (f_X2_addInput x1 th_inputCount th_inputs).bind (fun o1 => some (o1.1, o1.2.1, o1.2.2))
set_option maxHeartbeats 4000000 in
set_option maxRecDepth 100000 in
theorem k_X7_input (l : Launch) (tA : Nat) (dC : Nat → ClassId) (dI : Nat → Nat → Nat) (cI cZ cJ : ClassId) (a_t : Nat) (a_th : Nat) (a_th_inputs : Nat) (a_tb : Nat) (a_ta : Nat) (a_tk : Nat) (a_tf : Nat) (a_tg : Nat) (a_ty : Nat) (a_old : Nat) (a_th_openFunctions : Nat) (a_th_openStatements : Nat) (a_th_registers : Nat) (x1 : Int32) (t_analysed : Int32) (th_inputCount : Int32) (th_inputsRead : Int32) (th_openCount : Int32) (th_inputs : Nat → Int32) (out : Int32 × Int32 × (Nat → Int32)) (hf : f_X7_input x1 th_inputCount th_inputs = some out) : g_Mi l yX7_input cX7_input 2 (some .int) r_X7_input tA dC dI cI cZ cJ [.ref a_t, .int x1] (w_X7_input cI cZ cJ a_t a_th a_th_inputs a_tb a_ta a_tk a_tf a_tg a_ty a_old a_th_openFunctions a_th_openStatements a_th_registers t_analysed th_inputCount th_inputsRead th_openCount th_inputs) (w_X7_input cI cZ cJ a_t a_th a_th_inputs a_tb a_ta a_tk a_tf a_tg a_ty a_old a_th_openFunctions a_th_openStatements a_th_registers t_analysed out.2.1 th_inputsRead th_openCount out.2.2) out.1 := by
  unfold f_X7_input at hf
  refine ge_i (by decide) (Nat.le_of_ble_eq_true rfl) (fun p e s m below meth c A H locs ls hC hW hl => ?_)
  have hC : g_C p s m meth c _ cX7_input 2 (some .int) RX7 := hC
  have hx := hC.1
  have hb := hC.2.1
  have hown := hC.2.2.2.2.1
  have hts := hC.2.2.2.2.2.1
  have hl : lv_has ls 2 [(0, .ref a_t), (1, .int x1)] := hl
  refine lv_aload_n hx hb dX7_input_0 rfl (lv_at hl 0 rfl) ?_
  refine gs_get hC hW in_X7 0 6 rfl rfl (by decide) fl_X7_54 rfl dX7_input_1 ?_
  refine lv_iload_n hx hb dX7_input_4 rfl (lv_at hl 1 rfl) ?_
  obtain ⟨o1, h1, hf⟩ := g_bnd hf
  refine gs_callVi (ws' := w_X7_input cI cZ cJ a_t a_th a_th_inputs a_tb a_ta a_tk a_tf a_tg a_ty a_old a_th_openFunctions a_th_openStatements a_th_registers t_analysed o1.2.1 th_inputsRead th_openCount o1.2.2) hC hW (k_X2_addInput l tA dC dI cI cZ cJ a_th a_th_inputs a_old a_ty a_th_openFunctions a_th_openStatements a_th_registers x1 th_inputCount th_inputsRead th_openCount th_inputs _ h1) yk_X2_addInput lk_X7_130 iv_X2_addInput ⟨rfl, rfl⟩ ⟨Nat.le_of_ble_eq_true rfl, Nat.le_of_ble_eq_true rfl⟩ hl.1 1 rfl rfl [1, 2] [0] [0, 1, 2] rfl rfl rfl rfl (by decide) rfl rfl rfl rfl (Nat.le_of_ble_eq_true rfl) dX7_input_5 ⟨Nat.zero_le _, Nat.zero_le _⟩ (fun H locs hW => ?_)
  obtain rfl := Option.some.inj hf
  exact gs_ri hC hW rfl dX7_input_8

abbrev w_X7_empty (cI cZ cJ : ClassId) (a_t : Nat) (a_th : Nat) (a_tb : Nat) (a_ta : Nat) (a_tk : Nat) (a_tf : Nat) (a_tg : Nat) (a_ty : Nat) (a_old : Nat) (a_th_inputs : Nat) (a_th_openFunctions : Nat) (a_th_openStatements : Nat) (a_th_registers : Nat) (t_analysed : Int32) (th_inputCount : Int32) (th_inputsRead : Int32) (th_openCount : Int32) : va_W := [(a_t, .inr (7, [.ref a_tb, .ref a_ta, .ref a_tk, .ref a_tf, .ref a_tg, .ref a_ty, .ref a_th, .int t_analysed])), (a_th, .inr (2, [.ref a_old, .ref a_ty, .ref a_th_inputs, .int th_inputCount, .int th_inputsRead, .ref a_th_openFunctions, .ref a_th_openStatements, .ref a_th_registers, .int th_openCount]))]
abbrev r_X7_empty : Room := { frames := 1, cells := 0, slots := 0, locals := 20 }
def f_X7_empty (th_inputCount : Int32) : Option (Int32) := (f_X2_dropInputs th_inputCount).bind (fun o1 => some o1)
set_option maxHeartbeats 4000000 in
set_option maxRecDepth 100000 in
theorem k_X7_empty (l : Launch) (tA : Nat) (dC : Nat → ClassId) (dI : Nat → Nat → Nat) (cI cZ cJ : ClassId) (a_t : Nat) (a_th : Nat) (a_tb : Nat) (a_ta : Nat) (a_tk : Nat) (a_tf : Nat) (a_tg : Nat) (a_ty : Nat) (a_old : Nat) (a_th_inputs : Nat) (a_th_openFunctions : Nat) (a_th_openStatements : Nat) (a_th_registers : Nat) (t_analysed : Int32) (th_inputCount : Int32) (th_inputsRead : Int32) (th_openCount : Int32) (out : Int32) (hf : f_X7_empty th_inputCount = some out) : g_Mv l yX7_empty cX7_empty 1 (none : Option Jvm.ClassFile.FieldType) r_X7_empty tA dC dI cI cZ cJ [.ref a_t] (w_X7_empty cI cZ cJ a_t a_th a_tb a_ta a_tk a_tf a_tg a_ty a_old a_th_inputs a_th_openFunctions a_th_openStatements a_th_registers t_analysed th_inputCount th_inputsRead th_openCount) (w_X7_empty cI cZ cJ a_t a_th a_tb a_ta a_tk a_tf a_tg a_ty a_old a_th_inputs a_th_openFunctions a_th_openStatements a_th_registers t_analysed out th_inputsRead th_openCount) := by
  unfold f_X7_empty at hf
  refine ge_v (by decide) (Nat.le_of_ble_eq_true rfl) (fun p e s m below meth c A H locs ls hC hW hl => ?_)
  have hC : g_C p s m meth c _ cX7_empty 1 (none : Option Jvm.ClassFile.FieldType) RX7 := hC
  have hx := hC.1
  have hb := hC.2.1
  have hown := hC.2.2.2.2.1
  have hts := hC.2.2.2.2.2.1
  have hl : lv_has ls 1 [(0, .ref a_t)] := hl
  refine lv_aload_n hx hb dX7_empty_0 rfl (lv_at hl 0 rfl) ?_
  refine gs_get hC hW in_X7 0 6 rfl rfl (by decide) fl_X7_54 rfl dX7_empty_1 ?_
  obtain ⟨o1, h1, hf⟩ := g_bnd hf
  refine gs_callVv (ws' := w_X7_empty cI cZ cJ a_t a_th a_tb a_ta a_tk a_tf a_tg a_ty a_old a_th_inputs a_th_openFunctions a_th_openStatements a_th_registers t_analysed o1 th_inputsRead th_openCount) hC hW (k_X2_dropInputs l tA dC dI cI cZ cJ a_th a_old a_ty a_th_inputs a_th_openFunctions a_th_openStatements a_th_registers th_inputCount th_inputsRead th_openCount _ h1) yk_X2_dropInputs lk_X7_133 iv_X2_dropInputs ⟨rfl, rfl⟩ ⟨Nat.le_of_ble_eq_true rfl, Nat.le_of_ble_eq_true rfl⟩ hl.1 1 rfl rfl [1] [0] [0, 1] rfl rfl rfl rfl (by decide) rfl rfl rfl rfl (Nat.le_of_ble_eq_true rfl) dX7_empty_4 ⟨Nat.zero_le _, Nat.zero_le _⟩ (fun H locs hW => ?_)
  obtain rfl := Option.some.inj hf
  exact gs_rv hC hW rfl dX7_empty_7

abbrev w_X7_done (cI cZ cJ : ClassId) (a_t : Nat) (a_ty : Nat) (a_tb : Nat) (a_ta : Nat) (a_tk : Nat) (a_tf : Nat) (a_tg : Nat) (a_th : Nat) (a_ty_outputValues : Nat) (a_ty_callCounts : Nat) (a_ty_latestValues : Nat) (a_ty_differing : Nat) (t_analysed : Int32) (ty_doneCount : Int32) (ty_outputCount : Int32) : va_W := [(a_t, .inr (7, [.ref a_tb, .ref a_ta, .ref a_tk, .ref a_tf, .ref a_tg, .ref a_ty, .ref a_th, .int t_analysed])), (a_ty, .inr (6, [.int ty_doneCount, .int ty_outputCount, .ref a_ty_outputValues, .ref a_ty_callCounts, .ref a_ty_latestValues, .ref a_ty_differing]))]
abbrev r_X7_done : Room := { frames := 0, cells := 0, slots := 0, locals := 0 }
def f_X7_done (ty_doneCount : Int32) : Option (Int32) := some ty_doneCount
set_option maxHeartbeats 4000000 in
set_option maxRecDepth 100000 in
theorem k_X7_done (l : Launch) (tA : Nat) (dC : Nat → ClassId) (dI : Nat → Nat → Nat) (cI cZ cJ : ClassId) (a_t : Nat) (a_ty : Nat) (a_tb : Nat) (a_ta : Nat) (a_tk : Nat) (a_tf : Nat) (a_tg : Nat) (a_th : Nat) (a_ty_outputValues : Nat) (a_ty_callCounts : Nat) (a_ty_latestValues : Nat) (a_ty_differing : Nat) (t_analysed : Int32) (ty_doneCount : Int32) (ty_outputCount : Int32) (out : Int32) (hf : f_X7_done ty_doneCount = some out) : g_Mi l yX7_done cX7_done 1 (some .int) r_X7_done tA dC dI cI cZ cJ [.ref a_t] (w_X7_done cI cZ cJ a_t a_ty a_tb a_ta a_tk a_tf a_tg a_th a_ty_outputValues a_ty_callCounts a_ty_latestValues a_ty_differing t_analysed ty_doneCount ty_outputCount) (w_X7_done cI cZ cJ a_t a_ty a_tb a_ta a_tk a_tf a_tg a_th a_ty_outputValues a_ty_callCounts a_ty_latestValues a_ty_differing t_analysed ty_doneCount ty_outputCount) out := by
  unfold f_X7_done at hf
  refine ge_i (by decide) (Nat.le_of_ble_eq_true rfl) (fun p e s m below meth c A H locs ls hC hW hl => ?_)
  have hC : g_C p s m meth c _ cX7_done 1 (some .int) RX7 := hC
  have hx := hC.1
  have hb := hC.2.1
  have hown := hC.2.2.2.2.1
  have hts := hC.2.2.2.2.2.1
  have hl : lv_has ls 1 [(0, .ref a_t)] := hl
  refine lv_aload_n hx hb dX7_done_0 rfl (lv_at hl 0 rfl) ?_
  refine gs_get hC hW in_X7 0 5 rfl rfl (by decide) fl_X7_45 rfl dX7_done_1 ?_
  refine gs_get hC hW in_X6 1 0 rfl rfl (by decide) fl_X7_189 rfl dX7_done_4 ?_
  obtain rfl := Option.some.inj hf
  exact gs_ri hC hW rfl dX7_done_7

abbrev w_X7_outputs (cI cZ cJ : ClassId) (a_t : Nat) (a_ty : Nat) (a_tb : Nat) (a_ta : Nat) (a_tk : Nat) (a_tf : Nat) (a_tg : Nat) (a_th : Nat) (a_ty_outputValues : Nat) (a_ty_callCounts : Nat) (a_ty_latestValues : Nat) (a_ty_differing : Nat) (t_analysed : Int32) (ty_doneCount : Int32) (ty_outputCount : Int32) : va_W := [(a_t, .inr (7, [.ref a_tb, .ref a_ta, .ref a_tk, .ref a_tf, .ref a_tg, .ref a_ty, .ref a_th, .int t_analysed])), (a_ty, .inr (6, [.int ty_doneCount, .int ty_outputCount, .ref a_ty_outputValues, .ref a_ty_callCounts, .ref a_ty_latestValues, .ref a_ty_differing]))]
abbrev r_X7_outputs : Room := { frames := 0, cells := 0, slots := 0, locals := 0 }
def f_X7_outputs (ty_outputCount : Int32) : Option (Int32) := some ty_outputCount
set_option maxHeartbeats 4000000 in
set_option maxRecDepth 100000 in
theorem k_X7_outputs (l : Launch) (tA : Nat) (dC : Nat → ClassId) (dI : Nat → Nat → Nat) (cI cZ cJ : ClassId) (a_t : Nat) (a_ty : Nat) (a_tb : Nat) (a_ta : Nat) (a_tk : Nat) (a_tf : Nat) (a_tg : Nat) (a_th : Nat) (a_ty_outputValues : Nat) (a_ty_callCounts : Nat) (a_ty_latestValues : Nat) (a_ty_differing : Nat) (t_analysed : Int32) (ty_doneCount : Int32) (ty_outputCount : Int32) (out : Int32) (hf : f_X7_outputs ty_outputCount = some out) : g_Mi l yX7_outputs cX7_outputs 1 (some .int) r_X7_outputs tA dC dI cI cZ cJ [.ref a_t] (w_X7_outputs cI cZ cJ a_t a_ty a_tb a_ta a_tk a_tf a_tg a_th a_ty_outputValues a_ty_callCounts a_ty_latestValues a_ty_differing t_analysed ty_doneCount ty_outputCount) (w_X7_outputs cI cZ cJ a_t a_ty a_tb a_ta a_tk a_tf a_tg a_th a_ty_outputValues a_ty_callCounts a_ty_latestValues a_ty_differing t_analysed ty_doneCount ty_outputCount) out := by
  unfold f_X7_outputs at hf
  refine ge_i (by decide) (Nat.le_of_ble_eq_true rfl) (fun p e s m below meth c A H locs ls hC hW hl => ?_)
  have hC : g_C p s m meth c _ cX7_outputs 1 (some .int) RX7 := hC
  have hx := hC.1
  have hb := hC.2.1
  have hown := hC.2.2.2.2.1
  have hts := hC.2.2.2.2.2.1
  have hl : lv_has ls 1 [(0, .ref a_t)] := hl
  refine lv_aload_n hx hb dX7_outputs_0 rfl (lv_at hl 0 rfl) ?_
  refine gs_get hC hW in_X7 0 5 rfl rfl (by decide) fl_X7_45 rfl dX7_outputs_1 ?_
  refine gs_get hC hW in_X6 1 1 rfl rfl (by decide) fl_X7_192 rfl dX7_outputs_4 ?_
  obtain rfl := Option.some.inj hf
  exact gs_ri hC hW rfl dX7_outputs_7
