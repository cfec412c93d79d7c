theorem in_X3 : ∀ w ∈ wsX30, w ∈ gw := by decide +kernel
theorem fl_X3_9 : Cond.fieldLink RX3 9 (TX3 0).1 (TX3 0).2.1 (TX3 0).2.2.1 ∈ gw := gw_i 184 (by decide +kernel) rfl
theorem lk_X3_54 : Cond.methodLink RX3 54 yX4_placeOf ∈ gw := gw_i 591 (by decide +kernel) rfl
theorem lk_X3_44 : Cond.methodLink RX3 44 yX4_fieldOf ∈ gw := gw_i 590 (by decide +kernel) rfl
theorem fl_X3_15 : Cond.fieldLink RX3 15 (TX3 1).1 (TX3 1).2.1 (TX3 1).2.2.1 ∈ gw := gw_i 185 (by decide +kernel) rfl
theorem lk_X3_61 : Cond.methodLink RX3 61 yX1_hasNumber ∈ gw := gw_i 596 (by decide +kernel) rfl
theorem lk_X3_76 : Cond.methodLink RX3 76 yX1_numberOf ∈ gw := gw_i 610 (by decide +kernel) rfl
theorem ln_X3_99 : Cond.methodLinkNest RX3 99 yX7_operandOf RX7 ∈ gn := gn_i 629 (by decide +kernel) rfl
theorem yk_X7_operandOf : g_Y yX7_operandOf cX7_operandOf 1 (some .int) 1 := ⟨gw_i 631 (by decide +kernel) rfl, gw_i 56 (by decide +kernel) rfl, by decide +kernel, by decide +kernel, by decide +kernel⟩
theorem is_X7_operandOf : Cond.static yX7_operandOf ∈ gw := gw_i 630 (by decide +kernel) rfl
theorem lk_X3_72 : Cond.methodLink RX3 72 yX4_putField ∈ gw := gw_i 611 (by decide +kernel) rfl
theorem ln_X3_102 : Cond.methodLinkNest RX3 102 yX7_isNumber RX7 ∈ gn := gn_i 636 (by decide +kernel) rfl
theorem lk_X3_105 : Cond.methodLink RX3 105 yX4_entryFor ∈ gw := gw_i 641 (by decide +kernel) rfl
theorem fs_X3_86 : Cond.fieldLinkNest RX3 86 "ConstantSpread" "OPERANDS_USED" "[I" "ConstantSpread" ∈ gn := gn_i 624 (by decide +kernel) rfl
theorem yk_X3_renewOperand : g_Y yX3_renewOperand cX3_renewOperand 6 (none : Option Jvm.ClassFile.FieldType) 3 := ⟨gw_i 628 (by decide +kernel) rfl, gw_i 61 (by decide +kernel) rfl, by decide +kernel, by decide +kernel, by decide +kernel⟩
theorem lk_X3_89 : Cond.methodLink RX3 89 yX3_renewOperand ∈ gw := gw_i 625 (by decide +kernel) rfl
theorem iv_X3_renewOperand : Cond.instanceMethod yX3_renewOperand ∈ gw ∧ Cond.selects RX3 yX3_renewOperand yX3_renewOperand ∈ gw := ⟨gw_i 627 (by decide +kernel) rfl, gw_i 17 (by decide +kernel) rfl⟩
theorem yk_X3_renewTableCall : g_Y yX3_renewTableCall cX3_renewTableCall 5 (none : Option Jvm.ClassFile.FieldType) 2 := ⟨gw_i 640 (by decide +kernel) rfl, gw_i 61 (by decide +kernel) rfl, by decide +kernel, by decide +kernel, by decide +kernel⟩
theorem lk_X3_96 : Cond.methodLink RX3 96 yX3_renewTableCall ∈ gw := gw_i 637 (by decide +kernel) rfl
theorem iv_X3_renewTableCall : Cond.instanceMethod yX3_renewTableCall ∈ gw ∧ Cond.selects RX3 yX3_renewTableCall yX3_renewTableCall ∈ gw := ⟨gw_i 639 (by decide +kernel) rfl, gw_i 19 (by decide +kernel) rfl⟩
theorem yk_X3_renewIf : g_Y yX3_renewIf cX3_renewIf 4 (none : Option Jvm.ClassFile.FieldType) 2 := ⟨gw_i 635 (by decide +kernel) rfl, gw_i 61 (by decide +kernel) rfl, by decide +kernel, by decide +kernel, by decide +kernel⟩
theorem lk_X3_93 : Cond.methodLink RX3 93 yX3_renewIf ∈ gw := gw_i 632 (by decide +kernel) rfl
theorem iv_X3_renewIf : Cond.instanceMethod yX3_renewIf ∈ gw ∧ Cond.selects RX3 yX3_renewIf yX3_renewIf ∈ gw := ⟨gw_i 634 (by decide +kernel) rfl, gw_i 18 (by decide +kernel) rfl⟩
theorem fl_X3_48 : Cond.fieldLink RX3 48 (TX1 0).1 (TX1 0).2.1 (TX1 0).2.2.1 ∈ gw := gw_i 126 (by decide +kernel) rfl
theorem fl_X3_33 : Cond.fieldLink RX3 33 (TX4 3).1 (TX4 3).2.1 (TX4 3).2.2.1 ∈ gw := gw_i 98 (by decide +kernel) rfl
theorem yk_X3_renew : g_Y yX3_renew cX3_renew 5 (none : Option Jvm.ClassFile.FieldType) 2 := ⟨gw_i 623 (by decide +kernel) rfl, gw_i 61 (by decide +kernel) rfl, by decide +kernel, by decide +kernel, by decide +kernel⟩
theorem lk_X3_83 : Cond.methodLink RX3 83 yX3_renew ∈ gw := gw_i 620 (by decide +kernel) rfl
theorem iv_X3_renew : Cond.instanceMethod yX3_renew ∈ gw ∧ Cond.selects RX3 yX3_renew yX3_renew ∈ gw := ⟨gw_i 622 (by decide +kernel) rfl, gw_i 16 (by decide +kernel) rfl⟩
theorem fl_X3_27 : Cond.fieldLink RX3 27 (TX4 0).1 (TX4 0).2.1 (TX4 0).2.2.1 ∈ gw := gw_i 89 (by decide +kernel) rfl
theorem lk_X3_79 : Cond.methodLink RX3 79 yX1_isReached ∈ gw := gw_i 616 (by decide +kernel) rfl
theorem fl_X3_58 : Cond.fieldLink RX3 58 (TX4 2).1 (TX4 2).2.1 (TX4 2).2.2.1 ∈ gw := gw_i 94 (by decide +kernel) rfl
theorem yk_X3_isCallComeTo : g_Y yX3_isCallComeTo cX3_isCallComeTo 3 (some .boolean) 2 := ⟨gw_i 589 (by decide +kernel) rfl, gw_i 61 (by decide +kernel) rfl, by decide +kernel, by decide +kernel, by decide +kernel⟩
theorem lk_X3_37 : Cond.methodLink RX3 37 yX3_isCallComeTo ∈ gw := gw_i 586 (by decide +kernel) rfl
theorem iv_X3_isCallComeTo : Cond.instanceMethod yX3_isCallComeTo ∈ gw ∧ Cond.selects RX3 yX3_isCallComeTo yX3_isCallComeTo ∈ gw := ⟨gw_i 588 (by decide +kernel) rfl, gw_i 12 (by decide +kernel) rfl⟩
theorem yk_X3_isSpecial : g_Y yX3_isSpecial cX3_isSpecial 7 (some .boolean) 2 := ⟨gw_i 595 (by decide +kernel) rfl, gw_i 61 (by decide +kernel) rfl, by decide +kernel, by decide +kernel, by decide +kernel⟩
theorem lk_X3_41 : Cond.methodLink RX3 41 yX3_isSpecial ∈ gw := gw_i 592 (by decide +kernel) rfl
theorem iv_X3_isSpecial : Cond.instanceMethod yX3_isSpecial ∈ gw ∧ Cond.selects RX3 yX3_isSpecial yX3_isSpecial ∈ gw := ⟨gw_i 594 (by decide +kernel) rfl, gw_i 13 (by decide +kernel) rfl⟩
theorem yk_X3_sayTheSame : g_Y yX3_sayTheSame cX3_sayTheSame 12 (some .boolean) 4 := ⟨gw_i 609 (by decide +kernel) rfl, gw_i 61 (by decide +kernel) rfl, by decide +kernel, by decide +kernel, by decide +kernel⟩
theorem lk_X3_68 : Cond.methodLink RX3 68 yX3_sayTheSame ∈ gw := gw_i 606 (by decide +kernel) rfl
theorem iv_X3_sayTheSame : Cond.instanceMethod yX3_sayTheSame ∈ gw ∧ Cond.selects RX3 yX3_sayTheSame yX3_sayTheSame ∈ gw := ⟨gw_i 608 (by decide +kernel) rfl, gw_i 15 (by decide +kernel) rfl⟩
theorem yk_X4_addCopyOf : g_Y yX4_addCopyOf cX4_addCopyOf 3 (some .int) 1 := ⟨gw_i 604 (by decide +kernel) rfl, gw_i 57 (by decide +kernel) rfl, by decide +kernel, by decide +kernel, by decide +kernel⟩
theorem lk_X3_64 : Cond.methodLink RX3 64 yX4_addCopyOf ∈ gw := gw_i 601 (by decide +kernel) rfl
theorem iv_X4_addCopyOf : Cond.instanceMethod yX4_addCopyOf ∈ gw ∧ Cond.selects RX4 yX4_addCopyOf yX4_addCopyOf ∈ gw := ⟨gw_i 602 (by decide +kernel) rfl, gw_i 603 (by decide +kernel) rfl⟩
theorem yk_X3_firstSpecialCall : g_Y yX3_firstSpecialCall cX3_firstSpecialCall 3 (some .int) 0 := ⟨gw_i 585 (by decide +kernel) rfl, gw_i 61 (by decide +kernel) rfl, by decide +kernel, by decide +kernel, by decide +kernel⟩
theorem lk_X3_19 : Cond.methodLink RX3 19 yX3_firstSpecialCall ∈ gw := gw_i 582 (by decide +kernel) rfl
theorem iv_X3_firstSpecialCall : Cond.instanceMethod yX3_firstSpecialCall ∈ gw ∧ Cond.selects RX3 yX3_firstSpecialCall yX3_firstSpecialCall ∈ gw := ⟨gw_i 584 (by decide +kernel) rfl, gw_i 11 (by decide +kernel) rfl⟩
theorem yk_X3_copyFor : g_Y yX3_copyFor cX3_copyFor 7 (none : Option Jvm.ClassFile.FieldType) 2 := ⟨gw_i 600 (by decide +kernel) rfl, gw_i 61 (by decide +kernel) rfl, by decide +kernel, by decide +kernel, by decide +kernel⟩
theorem lk_X3_23 : Cond.methodLink RX3 23 yX3_copyFor ∈ gw := gw_i 597 (by decide +kernel) rfl
theorem iv_X3_copyFor : Cond.instanceMethod yX3_copyFor ∈ gw ∧ Cond.selects RX3 yX3_copyFor yX3_copyFor ∈ gw := ⟨gw_i 599 (by decide +kernel) rfl, gw_i 14 (by decide +kernel) rfl⟩
abbrev w_X3_renewOperand (cI cZ cJ : ClassId) (a_t : Nat) (a_tp : Nat) (a_tp_lengths : Nat) (a_tp_fields : Nat) (a_tk : Nat) (a_tk_any : Nat) (a_tk_numbers : Nat) (a_tp_parameterCounts : Nat) (a_tp_entries : Nat) (a_tk_comeTo : Nat) (tp_functionCount : Int32) (tp_entryCount : Int32) (tp_lengths : Nat → Int32) (tp_fields : Nat → Int32) (tk_any : Nat → Int32) (tk_numbers : Nat → Int32) : va_W := [(a_t, .inr (3, [.ref a_tp, .ref a_tk])), (a_tp, .inr (4, [.int tp_functionCount, .int tp_entryCount, .ref a_tp_parameterCounts, .ref a_tp_lengths, .ref a_tp_fields, .ref a_tp_entries])), (a_tp_lengths, .inl (cI, 12, .inl tp_lengths)), (a_tp_fields, .inl (cI, 1152, .inl tp_fields)), (a_tk, .inr (1, [.ref a_tk_comeTo, .ref a_tk_any, .ref a_tk_numbers])), (a_tk_any, .inl (cZ, 1224, .inl tk_any)), (a_tk_numbers, .inl (cI, 1224, .inl tk_numbers))]
abbrev r_X3_renewOperand : Room := { frames := 2, cells := 0, slots := 0, locals := 45 }
def f_X3_renewOperand (x1 : Int32) (x2 : Int32) (x3 : Int32) (tp_lengths : Nat → Int32) (tp_fields : Nat → Int32) (tk_any : Nat → Int32) (tk_numbers : Nat → Int32) : Option (Nat → Int32) := (f_X4_placeOf x1 x2 tp_lengths).bind (fun o1 => (f_X4_fieldOf x1 x2 x3 tp_fields).bind (fun o2 => (f_X1_hasNumber o1 o2 tk_any).bind (fun o3 => if o3 = 0 then some tp_fields else (f_X1_numberOf o1 o2 tk_numbers).bind (fun o5 => (f_X7_operandOf o5).bind (fun o6 => (f_X4_putField x1 x2 x3 o6 tp_fields).bind (fun o7 => some o7))))))
set_option maxHeartbeats 4000000 in
set_option maxRecDepth 100000 in
theorem k_X3_renewOperand (l : Launch) (tA : Nat) (dC : Nat → ClassId) (dI : Nat → Nat → Nat) (cI cZ cJ : ClassId) (a_t : Nat) (a_tp : Nat) (a_tp_lengths : Nat) (a_tp_fields : Nat) (a_tk : Nat) (a_tk_any : Nat) (a_tk_numbers : Nat) (a_tp_parameterCounts : Nat) (a_tp_entries : Nat) (a_tk_comeTo : Nat) (x1 : Int32) (x2 : Int32) (x3 : Int32) (tp_functionCount : Int32) (tp_entryCount : Int32) (tp_lengths : Nat → Int32) (tp_fields : Nat → Int32) (tk_any : Nat → Int32) (tk_numbers : Nat → Int32) (out : Nat → Int32) (hf : f_X3_renewOperand x1 x2 x3 tp_lengths tp_fields tk_any tk_numbers = some out) : g_Mv l yX3_renewOperand cX3_renewOperand 6 (none : Option Jvm.ClassFile.FieldType) r_X3_renewOperand tA dC dI cI cZ cJ [.ref a_t, .int x1, .int x2, .int x3] (w_X3_renewOperand cI cZ cJ a_t a_tp a_tp_lengths a_tp_fields a_tk a_tk_any a_tk_numbers a_tp_parameterCounts a_tp_entries a_tk_comeTo tp_functionCount tp_entryCount tp_lengths tp_fields tk_any tk_numbers) (w_X3_renewOperand cI cZ cJ a_t a_tp a_tp_lengths a_tp_fields a_tk a_tk_any a_tk_numbers a_tp_parameterCounts a_tp_entries a_tk_comeTo tp_functionCount tp_entryCount tp_lengths out tk_any tk_numbers) := by
  unfold f_X3_renewOperand at hf
  refine ge_v (by decide) (Nat.le_of_ble_eq_true rfl) (fun p e s m below meth c A H locs ls hC hW hl => ?_)
  have hC : g_C p s m meth c _ cX3_renewOperand 6 (none : Option Jvm.ClassFile.FieldType) RX3 := hC
  have hx := hC.1
  have hb := hC.2.1
  have hown := hC.2.2.2.2.1
  have hts := hC.2.2.2.2.2.1
  have hl : lv_has ls 6 [(0, .ref a_t), (1, .int x1), (2, .int x2), (3, .int x3)] := hl
  refine lv_aload_n hx hb dX3_renewOperand_0 rfl (lv_at hl 0 rfl) ?_
  refine gs_get hC hW in_X3 0 0 rfl rfl (by decide) fl_X3_9 rfl dX3_renewOperand_1 ?_
  refine lv_iload_n hx hb dX3_renewOperand_4 rfl (lv_at hl 1 rfl) ?_
  refine lv_iload_n hx hb dX3_renewOperand_5 rfl (lv_at hl 2 rfl) ?_
  obtain ⟨o1, h1, hf⟩ := g_bnd hf
  refine gs_callVi (ws' := w_X3_renewOperand cI cZ cJ a_t a_tp a_tp_lengths a_tp_fields a_tk a_tk_any a_tk_numbers a_tp_parameterCounts a_tp_entries a_tk_comeTo tp_functionCount tp_entryCount tp_lengths tp_fields tk_any tk_numbers) hC hW (k_X4_placeOf l tA dC dI cI cZ cJ a_tp a_tp_lengths a_tp_parameterCounts a_tp_fields a_tp_entries x1 x2 tp_functionCount tp_entryCount tp_lengths _ h1) yk_X4_placeOf lk_X3_54 iv_X4_placeOf ⟨rfl, rfl⟩ ⟨Nat.le_of_ble_eq_true rfl, Nat.le_of_ble_eq_true rfl⟩ hl.1 1 rfl rfl [1, 2] [0, 3, 4, 5, 6] [0, 5, 6, 1, 2, 3, 4] rfl rfl rfl rfl (by decide) rfl rfl rfl rfl (Nat.le_of_ble_eq_true rfl) dX3_renewOperand_6 ⟨Nat.zero_le _, Nat.zero_le _⟩ (fun H locs hW => ?_)
  refine lv_istore (lv' := [(4, .int o1), (0, .ref a_t), (1, .int x1), (2, .int x2), (3, .int x3)]) hx hb dX3_renewOperand_9 hl (by decide) rfl (fun ls hl => ?_)
  refine lv_aload_n hx hb dX3_renewOperand_11 rfl (lv_at hl 1 rfl) ?_
  refine gs_get hC hW in_X3 0 0 rfl rfl (by decide) fl_X3_9 rfl dX3_renewOperand_12 ?_
  refine lv_iload_n hx hb dX3_renewOperand_15 rfl (lv_at hl 2 rfl) ?_
  refine lv_iload_n hx hb dX3_renewOperand_16 rfl (lv_at hl 3 rfl) ?_
  refine lv_iload_n hx hb dX3_renewOperand_17 rfl (lv_at hl 4 rfl) ?_
  obtain ⟨o2, h2, hf⟩ := g_bnd hf
  refine gs_callVi (ws' := w_X3_renewOperand cI cZ cJ a_t a_tp a_tp_lengths a_tp_fields a_tk a_tk_any a_tk_numbers a_tp_parameterCounts a_tp_entries a_tk_comeTo tp_functionCount tp_entryCount tp_lengths tp_fields tk_any tk_numbers) hC hW (k_X4_fieldOf l tA dC dI cI cZ cJ a_tp a_tp_fields a_tp_parameterCounts a_tp_lengths a_tp_entries x1 x2 x3 tp_functionCount tp_entryCount tp_fields _ h2) yk_X4_fieldOf lk_X3_44 iv_X4_fieldOf ⟨rfl, rfl⟩ ⟨Nat.le_of_ble_eq_true rfl, Nat.le_of_ble_eq_true rfl⟩ hl.1 1 rfl rfl [1, 3] [0, 2, 4, 5, 6] [0, 5, 1, 6, 2, 3, 4] rfl rfl rfl rfl (by decide) rfl rfl rfl rfl (Nat.le_of_ble_eq_true rfl) dX3_renewOperand_18 ⟨Nat.zero_le _, Nat.zero_le _⟩ (fun H locs hW => ?_)
  refine lv_istore (lv' := [(5, .int o2), (4, .int o1), (0, .ref a_t), (1, .int x1), (2, .int x2), (3, .int x3)]) hx hb dX3_renewOperand_21 hl (by decide) rfl (fun ls hl => ?_)
  refine lv_aload_n hx hb dX3_renewOperand_23 rfl (lv_at hl 2 rfl) ?_
  refine gs_get hC hW in_X3 0 1 rfl rfl (by decide) fl_X3_15 rfl dX3_renewOperand_24 ?_
  refine lv_iload hx hb dX3_renewOperand_27 (lv_at hl 1 rfl) ?_
  refine lv_iload hx hb dX3_renewOperand_29 (lv_at hl 0 rfl) ?_
  obtain ⟨o3, h3, hf⟩ := g_bnd hf
  refine gs_callVi (ws' := w_X3_renewOperand cI cZ cJ a_t a_tp a_tp_lengths a_tp_fields a_tk a_tk_any a_tk_numbers a_tp_parameterCounts a_tp_entries a_tk_comeTo tp_functionCount tp_entryCount tp_lengths tp_fields tk_any tk_numbers) hC hW (k_X1_hasNumber l tA dC dI cI cZ cJ a_tk a_tk_any a_tk_comeTo a_tk_numbers o1 o2 tk_any _ h3) yk_X1_hasNumber lk_X3_61 iv_X1_hasNumber ⟨rfl, rfl⟩ ⟨Nat.le_of_ble_eq_true rfl, Nat.le_of_ble_eq_true rfl⟩ hl.1 4 rfl rfl [4, 5] [0, 1, 2, 3, 6] [0, 1, 2, 3, 5, 6, 4] rfl rfl rfl rfl (by decide) rfl rfl rfl rfl (Nat.le_of_ble_eq_true rfl) dX3_renewOperand_31 ⟨Nat.zero_le _, Nat.zero_le _⟩ (fun H locs hW => ?_)
  refine lv_if_eq (tgt := 61) hx hb dX3_renewOperand_34 (by decide) (fun c4 => ?_) (fun c4 => ?_)
  · replace hf := (if_pos c4).symm.trans hf
    obtain rfl := Option.some.inj hf
    exact gs_rv hC hW rfl dX3_renewOperand_61
  · replace hf := (if_neg c4).symm.trans hf
    refine lv_aload_n hx hb dX3_renewOperand_37 rfl (lv_at hl 2 rfl) ?_
    refine gs_get hC hW in_X3 0 0 rfl rfl (by decide) fl_X3_9 rfl dX3_renewOperand_38 ?_
    refine lv_iload_n hx hb dX3_renewOperand_41 rfl (lv_at hl 3 rfl) ?_
    refine lv_iload_n hx hb dX3_renewOperand_42 rfl (lv_at hl 4 rfl) ?_
    refine lv_iload_n hx hb dX3_renewOperand_43 rfl (lv_at hl 5 rfl) ?_
    refine lv_aload_n hx hb dX3_renewOperand_44 rfl (lv_at hl 2 rfl) ?_
    refine gs_get hC hW in_X3 0 1 rfl rfl (by decide) fl_X3_15 rfl dX3_renewOperand_45 ?_
    refine lv_iload hx hb dX3_renewOperand_48 (lv_at hl 1 rfl) ?_
    refine lv_iload hx hb dX3_renewOperand_50 (lv_at hl 0 rfl) ?_
    obtain ⟨o5, h5, hf⟩ := g_bnd hf
    refine gs_callVi (ws' := w_X3_renewOperand cI cZ cJ a_t a_tp a_tp_lengths a_tp_fields a_tk a_tk_any a_tk_numbers a_tp_parameterCounts a_tp_entries a_tk_comeTo tp_functionCount tp_entryCount tp_lengths tp_fields tk_any tk_numbers) hC hW (k_X1_numberOf l tA dC dI cI cZ cJ a_tk a_tk_numbers a_tk_comeTo a_tk_any o1 o2 tk_numbers _ h5) yk_X1_numberOf lk_X3_76 iv_X1_numberOf ⟨rfl, rfl⟩ ⟨Nat.le_of_ble_eq_true rfl, Nat.le_of_ble_eq_true rfl⟩ hl.1 4 rfl rfl [4, 6] [0, 1, 2, 3, 5] [0, 1, 2, 3, 5, 4, 6] rfl rfl rfl rfl (by decide) rfl rfl rfl rfl (Nat.le_of_ble_eq_true rfl) dX3_renewOperand_52 ⟨Nat.zero_le _, Nat.zero_le _⟩ (fun H locs hW => ?_)
    obtain ⟨o6, h6, hf⟩ := g_bnd hf
    refine gs_callSNi (ws' := w_X3_renewOperand cI cZ cJ a_t a_tp a_tp_lengths a_tp_fields a_tk a_tk_any a_tk_numbers a_tp_parameterCounts a_tp_entries a_tk_comeTo tp_functionCount tp_entryCount tp_lengths tp_fields tk_any tk_numbers) hC hW (k_X7_operandOf l tA dC dI cI cZ cJ o5 _ h6) yk_X7_operandOf ln_X3_99 is_X7_operandOf ⟨rfl, rfl⟩ ⟨Nat.le_of_ble_eq_true rfl, Nat.le_of_ble_eq_true rfl⟩ hl.1 [] [0, 1, 2, 3, 4, 5, 6] [0, 1, 2, 3, 4, 5, 6] rfl rfl rfl rfl (by decide) rfl rfl rfl rfl (Nat.le_of_ble_eq_true rfl) dX3_renewOperand_55 ⟨Nat.zero_le _, Nat.zero_le _⟩ (fun H locs hW => ?_)
    obtain ⟨o7, h7, hf⟩ := g_bnd hf
    refine gs_callVv (ws' := w_X3_renewOperand cI cZ cJ a_t a_tp a_tp_lengths a_tp_fields a_tk a_tk_any a_tk_numbers a_tp_parameterCounts a_tp_entries a_tk_comeTo tp_functionCount tp_entryCount tp_lengths o7 tk_any tk_numbers) hC hW (k_X4_putField l tA dC dI cI cZ cJ a_tp a_tp_fields a_tp_parameterCounts a_tp_lengths a_tp_entries x1 x2 x3 o6 tp_functionCount tp_entryCount tp_fields _ h7) yk_X4_putField lk_X3_72 iv_X4_putField ⟨rfl, rfl⟩ ⟨Nat.le_of_ble_eq_true rfl, Nat.le_of_ble_eq_true rfl⟩ hl.1 1 rfl rfl [1, 3] [0, 2, 4, 5, 6] [0, 5, 1, 6, 2, 3, 4] rfl rfl rfl rfl (by decide) rfl rfl rfl rfl (Nat.le_of_ble_eq_true rfl) dX3_renewOperand_58 ⟨Nat.zero_le _, Nat.zero_le _⟩ (fun H locs hW => ?_)
    obtain rfl := Option.some.inj hf
    exact gs_rv hC hW rfl dX3_renewOperand_61

abbrev w_X3_renewTableCall (cI cZ cJ : ClassId) (a_t : Nat) (a_tp : Nat) (a_tp_fields : Nat) (a_tp_entries : Nat) (a_tk : Nat) (a_tp_parameterCounts : Nat) (a_tp_lengths : Nat) (tp_functionCount : Int32) (tp_entryCount : Int32) (tp_fields : Nat → Int32) (tp_entries : Nat → Int32) : va_W := [(a_t, .inr (3, [.ref a_tp, .ref a_tk])), (a_tp, .inr (4, [.int tp_functionCount, .int tp_entryCount, .ref a_tp_parameterCounts, .ref a_tp_lengths, .ref a_tp_fields, .ref a_tp_entries])), (a_tp_fields, .inl (cI, 1152, .inl tp_fields)), (a_tp_entries, .inl (cI, 4, .inl tp_entries))]
abbrev r_X3_renewTableCall : Room := { frames := 2, cells := 0, slots := 0, locals := 45 }
def f_X3_renewTableCall (x1 : Int32) (x2 : Int32) (tp_entryCount : Int32) (tp_fields : Nat → Int32) (tp_entries : Nat → Int32) : Option (Nat → Int32) := (f_X4_fieldOf x1 x2 2 tp_fields).bind (fun o1 => (f_X7_isNumber o1).bind (fun o2 => if o2 = 0 then some tp_fields else (f_X4_entryFor (o1 >>> (3 &&& 31)) tp_entryCount tp_entries).bind (fun o4 => if o4 = (-1) then (f_X4_putField x1 x2 0 0 tp_fields).bind (fun o8 => (f_X7_operandOf 0).bind (fun o9 => (f_X4_putField x1 x2 3 o9 o8).bind (fun o10 => some o10))) else (f_X4_putField x1 x2 0 10 tp_fields).bind (fun o6 => (f_X4_putField x1 x2 2 o4 o6).bind (fun o7 => some o7)))))
set_option maxHeartbeats 4000000 in
set_option maxRecDepth 100000 in
theorem k_X3_renewTableCall (l : Launch) (tA : Nat) (dC : Nat → ClassId) (dI : Nat → Nat → Nat) (cI cZ cJ : ClassId) (a_t : Nat) (a_tp : Nat) (a_tp_fields : Nat) (a_tp_entries : Nat) (a_tk : Nat) (a_tp_parameterCounts : Nat) (a_tp_lengths : Nat) (x1 : Int32) (x2 : Int32) (tp_functionCount : Int32) (tp_entryCount : Int32) (tp_fields : Nat → Int32) (tp_entries : Nat → Int32) (out : Nat → Int32) (hf : f_X3_renewTableCall x1 x2 tp_entryCount tp_fields tp_entries = some out) : g_Mv l yX3_renewTableCall cX3_renewTableCall 5 (none : Option Jvm.ClassFile.FieldType) r_X3_renewTableCall tA dC dI cI cZ cJ [.ref a_t, .int x1, .int x2] (w_X3_renewTableCall cI cZ cJ a_t a_tp a_tp_fields a_tp_entries a_tk a_tp_parameterCounts a_tp_lengths tp_functionCount tp_entryCount tp_fields tp_entries) (w_X3_renewTableCall cI cZ cJ a_t a_tp a_tp_fields a_tp_entries a_tk a_tp_parameterCounts a_tp_lengths tp_functionCount tp_entryCount out tp_entries) := by
  unfold f_X3_renewTableCall at hf
  refine ge_v (by decide) (Nat.le_of_ble_eq_true rfl) (fun p e s m below meth c A H locs ls hC hW hl => ?_)
  have hC : g_C p s m meth c _ cX3_renewTableCall 5 (none : Option Jvm.ClassFile.FieldType) RX3 := hC
  have hx := hC.1
  have hb := hC.2.1
  have hown := hC.2.2.2.2.1
  have hts := hC.2.2.2.2.2.1
  have hl : lv_has ls 5 [(0, .ref a_t), (1, .int x1), (2, .int x2)] := hl
  refine lv_aload_n hx hb dX3_renewTableCall_0 rfl (lv_at hl 0 rfl) ?_
  refine gs_get hC hW in_X3 0 0 rfl rfl (by decide) fl_X3_9 rfl dX3_renewTableCall_1 ?_
  refine lv_iload_n hx hb dX3_renewTableCall_4 rfl (lv_at hl 1 rfl) ?_
  refine lv_iload_n hx hb dX3_renewTableCall_5 rfl (lv_at hl 2 rfl) ?_
  refine lv_iconst (v := 2) hx hb dX3_renewTableCall_6 (by decide) ?_
  obtain ⟨o1, h1, hf⟩ := g_bnd hf
  refine gs_callVi (ws' := w_X3_renewTableCall cI cZ cJ a_t a_tp a_tp_fields a_tp_entries a_tk a_tp_parameterCounts a_tp_lengths tp_functionCount tp_entryCount tp_fields tp_entries) hC hW (k_X4_fieldOf l tA dC dI cI cZ cJ a_tp a_tp_fields a_tp_parameterCounts a_tp_lengths a_tp_entries x1 x2 2 tp_functionCount tp_entryCount tp_fields _ h1) yk_X4_fieldOf lk_X3_44 iv_X4_fieldOf ⟨rfl, rfl⟩ ⟨Nat.le_of_ble_eq_true rfl, Nat.le_of_ble_eq_true rfl⟩ hl.1 1 rfl rfl [1, 2] [0, 3] [0, 2, 3, 1] rfl rfl rfl rfl (by decide) rfl rfl rfl rfl (Nat.le_of_ble_eq_true rfl) dX3_renewTableCall_7 ⟨Nat.zero_le _, Nat.zero_le _⟩ (fun H locs hW => ?_)
  refine lv_istore_n (lv' := [(3, .int o1), (0, .ref a_t), (1, .int x1), (2, .int x2)]) hx hb dX3_renewTableCall_10 rfl hl (by decide) rfl (fun ls hl => ?_)
  refine lv_iload_n hx hb dX3_renewTableCall_11 rfl (lv_at hl 0 rfl) ?_
  obtain ⟨o2, h2, hf⟩ := g_bnd hf
  refine gs_callSNi (ws' := w_X3_renewTableCall cI cZ cJ a_t a_tp a_tp_fields a_tp_entries a_tk a_tp_parameterCounts a_tp_lengths tp_functionCount tp_entryCount tp_fields tp_entries) hC hW (k_X7_isNumber l tA dC dI cI cZ cJ o1 _ h2) yk_X7_isNumber ln_X3_102 is_X7_isNumber ⟨rfl, rfl⟩ ⟨Nat.le_of_ble_eq_true rfl, Nat.le_of_ble_eq_true rfl⟩ hl.1 [] [0, 1, 2, 3] [0, 1, 2, 3] rfl rfl rfl rfl (by decide) rfl rfl rfl rfl (Nat.le_of_ble_eq_true rfl) dX3_renewTableCall_12 ⟨Nat.zero_le _, Nat.zero_le _⟩ (fun H locs hW => ?_)
  refine lv_if_ne (tgt := 19) hx hb dX3_renewTableCall_15 (by decide) (fun c3 => ?_) (fun c3 => ?_)
  · replace hf := (if_neg c3).symm.trans hf
    refine lv_aload_n hx hb dX3_renewTableCall_19 rfl (lv_at hl 1 rfl) ?_
    refine gs_get hC hW in_X3 0 0 rfl rfl (by decide) fl_X3_9 rfl dX3_renewTableCall_20 ?_
    refine lv_iload_n hx hb dX3_renewTableCall_23 rfl (lv_at hl 0 rfl) ?_
    refine lv_iconst (v := 3) hx hb dX3_renewTableCall_24 (by decide) ?_
    refine lv_ishr hx hb dX3_renewTableCall_25 ?_
    obtain ⟨o4, h4, hf⟩ := g_bnd hf
    refine gs_callVi (ws' := w_X3_renewTableCall cI cZ cJ a_t a_tp a_tp_fields a_tp_entries a_tk a_tp_parameterCounts a_tp_lengths tp_functionCount tp_entryCount tp_fields tp_entries) hC hW (k_X4_entryFor l tA dC dI cI cZ cJ a_tp a_tp_entries a_tp_parameterCounts a_tp_lengths a_tp_fields (o1 >>> (3 &&& 31)) tp_functionCount tp_entryCount tp_entries _ h4) yk_X4_entryFor lk_X3_105 iv_X4_entryFor ⟨rfl, rfl⟩ ⟨Nat.le_of_ble_eq_true rfl, Nat.le_of_ble_eq_true rfl⟩ hl.1 1 rfl rfl [1, 3] [0, 2] [0, 2, 1, 3] rfl rfl rfl rfl (by decide) rfl rfl rfl rfl (Nat.le_of_ble_eq_true rfl) dX3_renewTableCall_26 ⟨Nat.zero_le _, Nat.zero_le _⟩ (fun H locs hW => ?_)
    refine lv_istore (lv' := [(4, .int o4), (3, .int o1), (0, .ref a_t), (1, .int x1), (2, .int x2)]) hx hb dX3_renewTableCall_29 hl (by decide) rfl (fun ls hl => ?_)
    refine lv_iload hx hb dX3_renewTableCall_31 (lv_at hl 0 rfl) ?_
    refine lv_iconst (v := (-1)) hx hb dX3_renewTableCall_33 (by decide) ?_
    refine lv_icmp_ne (tgt := 65) hx hb dX3_renewTableCall_34 (by decide) (fun c5 => ?_) (fun c5 => ?_)
    · replace hf := (if_neg c5).symm.trans hf
      refine lv_aload_n hx hb dX3_renewTableCall_65 rfl (lv_at hl 2 rfl) ?_
      refine gs_get hC hW in_X3 0 0 rfl rfl (by decide) fl_X3_9 rfl dX3_renewTableCall_66 ?_
      refine lv_iload_n hx hb dX3_renewTableCall_69 rfl (lv_at hl 3 rfl) ?_
      refine lv_iload_n hx hb dX3_renewTableCall_70 rfl (lv_at hl 4 rfl) ?_
      refine lv_iconst (v := 0) hx hb dX3_renewTableCall_71 (by decide) ?_
      refine lv_bipush (v := 10) hx hb dX3_renewTableCall_72 (by decide) ?_
      obtain ⟨o6, h6, hf⟩ := g_bnd hf
      refine gs_callVv (ws' := w_X3_renewTableCall cI cZ cJ a_t a_tp a_tp_fields a_tp_entries a_tk a_tp_parameterCounts a_tp_lengths tp_functionCount tp_entryCount o6 tp_entries) hC hW (k_X4_putField l tA dC dI cI cZ cJ a_tp a_tp_fields a_tp_parameterCounts a_tp_lengths a_tp_entries x1 x2 0 10 tp_functionCount tp_entryCount tp_fields _ h6) yk_X4_putField lk_X3_72 iv_X4_putField ⟨rfl, rfl⟩ ⟨Nat.le_of_ble_eq_true rfl, Nat.le_of_ble_eq_true rfl⟩ hl.1 1 rfl rfl [1, 2] [0, 3] [0, 2, 3, 1] rfl rfl rfl rfl (by decide) rfl rfl rfl rfl (Nat.le_of_ble_eq_true rfl) dX3_renewTableCall_74 ⟨Nat.zero_le _, Nat.zero_le _⟩ (fun H locs hW => ?_)
      refine lv_aload_n hx hb dX3_renewTableCall_77 rfl (lv_at hl 2 rfl) ?_
      refine gs_get hC hW in_X3 0 0 rfl rfl (by decide) fl_X3_9 rfl dX3_renewTableCall_78 ?_
      refine lv_iload_n hx hb dX3_renewTableCall_81 rfl (lv_at hl 3 rfl) ?_
      refine lv_iload_n hx hb dX3_renewTableCall_82 rfl (lv_at hl 4 rfl) ?_
      refine lv_iconst (v := 2) hx hb dX3_renewTableCall_83 (by decide) ?_
      refine lv_iload hx hb dX3_renewTableCall_84 (lv_at hl 0 rfl) ?_
      obtain ⟨o7, h7, hf⟩ := g_bnd hf
      refine gs_callVv (ws' := w_X3_renewTableCall cI cZ cJ a_t a_tp a_tp_fields a_tp_entries a_tk a_tp_parameterCounts a_tp_lengths tp_functionCount tp_entryCount o7 tp_entries) hC hW (k_X4_putField l tA dC dI cI cZ cJ a_tp a_tp_fields a_tp_parameterCounts a_tp_lengths a_tp_entries x1 x2 2 o4 tp_functionCount tp_entryCount o6 _ h7) yk_X4_putField lk_X3_72 iv_X4_putField ⟨rfl, rfl⟩ ⟨Nat.le_of_ble_eq_true rfl, Nat.le_of_ble_eq_true rfl⟩ hl.1 1 rfl rfl [1, 2] [0, 3] [0, 2, 3, 1] rfl rfl rfl rfl (by decide) rfl rfl rfl rfl (Nat.le_of_ble_eq_true rfl) dX3_renewTableCall_86 ⟨Nat.zero_le _, Nat.zero_le _⟩ (fun H locs hW => ?_)
      obtain rfl := Option.some.inj hf
      exact gs_rv hC hW rfl dX3_renewTableCall_89
    · replace hf := (if_pos c5).symm.trans hf
      refine lv_aload_n hx hb dX3_renewTableCall_37 rfl (lv_at hl 2 rfl) ?_
      refine gs_get hC hW in_X3 0 0 rfl rfl (by decide) fl_X3_9 rfl dX3_renewTableCall_38 ?_
      refine lv_iload_n hx hb dX3_renewTableCall_41 rfl (lv_at hl 3 rfl) ?_
      refine lv_iload_n hx hb dX3_renewTableCall_42 rfl (lv_at hl 4 rfl) ?_
      refine lv_iconst (v := 0) hx hb dX3_renewTableCall_43 (by decide) ?_
      refine lv_iconst (v := 0) hx hb dX3_renewTableCall_44 (by decide) ?_
      obtain ⟨o8, h8, hf⟩ := g_bnd hf
      refine gs_callVv (ws' := w_X3_renewTableCall cI cZ cJ a_t a_tp a_tp_fields a_tp_entries a_tk a_tp_parameterCounts a_tp_lengths tp_functionCount tp_entryCount o8 tp_entries) hC hW (k_X4_putField l tA dC dI cI cZ cJ a_tp a_tp_fields a_tp_parameterCounts a_tp_lengths a_tp_entries x1 x2 0 0 tp_functionCount tp_entryCount tp_fields _ h8) yk_X4_putField lk_X3_72 iv_X4_putField ⟨rfl, rfl⟩ ⟨Nat.le_of_ble_eq_true rfl, Nat.le_of_ble_eq_true rfl⟩ hl.1 1 rfl rfl [1, 2] [0, 3] [0, 2, 3, 1] rfl rfl rfl rfl (by decide) rfl rfl rfl rfl (Nat.le_of_ble_eq_true rfl) dX3_renewTableCall_45 ⟨Nat.zero_le _, Nat.zero_le _⟩ (fun H locs hW => ?_)
      refine lv_aload_n hx hb dX3_renewTableCall_48 rfl (lv_at hl 2 rfl) ?_
      refine gs_get hC hW in_X3 0 0 rfl rfl (by decide) fl_X3_9 rfl dX3_renewTableCall_49 ?_
      refine lv_iload_n hx hb dX3_renewTableCall_52 rfl (lv_at hl 3 rfl) ?_
      refine lv_iload_n hx hb dX3_renewTableCall_53 rfl (lv_at hl 4 rfl) ?_
      refine lv_iconst (v := 3) hx hb dX3_renewTableCall_54 (by decide) ?_
      refine lv_iconst (v := 0) hx hb dX3_renewTableCall_55 (by decide) ?_
      obtain ⟨o9, h9, hf⟩ := g_bnd hf
      refine gs_callSNi (ws' := w_X3_renewTableCall cI cZ cJ a_t a_tp a_tp_fields a_tp_entries a_tk a_tp_parameterCounts a_tp_lengths tp_functionCount tp_entryCount o8 tp_entries) hC hW (k_X7_operandOf l tA dC dI cI cZ cJ 0 _ h9) yk_X7_operandOf ln_X3_99 is_X7_operandOf ⟨rfl, rfl⟩ ⟨Nat.le_of_ble_eq_true rfl, Nat.le_of_ble_eq_true rfl⟩ hl.1 [] [0, 1, 2, 3] [0, 1, 2, 3] rfl rfl rfl rfl (by decide) rfl rfl rfl rfl (Nat.le_of_ble_eq_true rfl) dX3_renewTableCall_56 ⟨Nat.zero_le _, Nat.zero_le _⟩ (fun H locs hW => ?_)
      obtain ⟨o10, h10, hf⟩ := g_bnd hf
      refine gs_callVv (ws' := w_X3_renewTableCall cI cZ cJ a_t a_tp a_tp_fields a_tp_entries a_tk a_tp_parameterCounts a_tp_lengths tp_functionCount tp_entryCount o10 tp_entries) hC hW (k_X4_putField l tA dC dI cI cZ cJ a_tp a_tp_fields a_tp_parameterCounts a_tp_lengths a_tp_entries x1 x2 3 o9 tp_functionCount tp_entryCount o8 _ h10) yk_X4_putField lk_X3_72 iv_X4_putField ⟨rfl, rfl⟩ ⟨Nat.le_of_ble_eq_true rfl, Nat.le_of_ble_eq_true rfl⟩ hl.1 1 rfl rfl [1, 2] [0, 3] [0, 2, 3, 1] rfl rfl rfl rfl (by decide) rfl rfl rfl rfl (Nat.le_of_ble_eq_true rfl) dX3_renewTableCall_59 ⟨Nat.zero_le _, Nat.zero_le _⟩ (fun H locs hW => ?_)
      refine lv_goto (tgt := 89) hx hb dX3_renewTableCall_62 (by decide) ?_
      obtain rfl := Option.some.inj hf
      exact gs_rv hC hW rfl dX3_renewTableCall_89
  · replace hf := (if_pos c3).symm.trans hf
    obtain rfl := Option.some.inj hf
    exact gs_rv hC hW rfl dX3_renewTableCall_18

abbrev w_X3_renewIf (cI cZ cJ : ClassId) (a_t : Nat) (a_tp : Nat) (a_tp_fields : Nat) (a_tk : Nat) (a_tp_parameterCounts : Nat) (a_tp_lengths : Nat) (a_tp_entries : Nat) (tp_functionCount : Int32) (tp_entryCount : Int32) (tp_fields : Nat → Int32) : va_W := [(a_t, .inr (3, [.ref a_tp, .ref a_tk])), (a_tp, .inr (4, [.int tp_functionCount, .int tp_entryCount, .ref a_tp_parameterCounts, .ref a_tp_lengths, .ref a_tp_fields, .ref a_tp_entries])), (a_tp_fields, .inl (cI, 1152, .inl tp_fields))]
abbrev r_X3_renewIf : Room := { frames := 2, cells := 0, slots := 0, locals := 45 }
def f_X3_renewIf (x1 : Int32) (x2 : Int32) (tp_fields : Nat → Int32) : Option (Nat → Int32) := (f_X4_fieldOf x1 x2 3 tp_fields).bind (fun o1 => (f_X7_isNumber o1).bind (fun o2 => if o2 = 0 then some tp_fields else if (o1 >>> (3 &&& 31)) = 0 then (f_X4_putField x1 x2 0 12 tp_fields).bind (fun o5 => some o5) else (f_X4_putField x1 x2 0 8 tp_fields).bind (fun o6 => some o6)))
set_option maxHeartbeats 4000000 in
set_option maxRecDepth 100000 in
theorem k_X3_renewIf (l : Launch) (tA : Nat) (dC : Nat → ClassId) (dI : Nat → Nat → Nat) (cI cZ cJ : ClassId) (a_t : Nat) (a_tp : Nat) (a_tp_fields : Nat) (a_tk : Nat) (a_tp_parameterCounts : Nat) (a_tp_lengths : Nat) (a_tp_entries : Nat) (x1 : Int32) (x2 : Int32) (tp_functionCount : Int32) (tp_entryCount : Int32) (tp_fields : Nat → Int32) (out : Nat → Int32) (hf : f_X3_renewIf x1 x2 tp_fields = some out) : g_Mv l yX3_renewIf cX3_renewIf 4 (none : Option Jvm.ClassFile.FieldType) r_X3_renewIf tA dC dI cI cZ cJ [.ref a_t, .int x1, .int x2] (w_X3_renewIf cI cZ cJ a_t a_tp a_tp_fields a_tk a_tp_parameterCounts a_tp_lengths a_tp_entries tp_functionCount tp_entryCount tp_fields) (w_X3_renewIf cI cZ cJ a_t a_tp a_tp_fields a_tk a_tp_parameterCounts a_tp_lengths a_tp_entries tp_functionCount tp_entryCount out) := by
  unfold f_X3_renewIf at hf
  refine ge_v (by decide) (Nat.le_of_ble_eq_true rfl) (fun p e s m below meth c A H locs ls hC hW hl => ?_)
  have hC : g_C p s m meth c _ cX3_renewIf 4 (none : Option Jvm.ClassFile.FieldType) RX3 := hC
  have hx := hC.1
  have hb := hC.2.1
  have hown := hC.2.2.2.2.1
  have hts := hC.2.2.2.2.2.1
  have hl : lv_has ls 4 [(0, .ref a_t), (1, .int x1), (2, .int x2)] := hl
  refine lv_aload_n hx hb dX3_renewIf_0 rfl (lv_at hl 0 rfl) ?_
  refine gs_get hC hW in_X3 0 0 rfl rfl (by decide) fl_X3_9 rfl dX3_renewIf_1 ?_
  refine lv_iload_n hx hb dX3_renewIf_4 rfl (lv_at hl 1 rfl) ?_
  refine lv_iload_n hx hb dX3_renewIf_5 rfl (lv_at hl 2 rfl) ?_
  refine lv_iconst (v := 3) hx hb dX3_renewIf_6 (by decide) ?_
  obtain ⟨o1, h1, hf⟩ := g_bnd hf
  refine gs_callVi (ws' := w_X3_renewIf cI cZ cJ a_t a_tp a_tp_fields a_tk a_tp_parameterCounts a_tp_lengths a_tp_entries tp_functionCount tp_entryCount tp_fields) hC hW (k_X4_fieldOf l tA dC dI cI cZ cJ a_tp a_tp_fields a_tp_parameterCounts a_tp_lengths a_tp_entries x1 x2 3 tp_functionCount tp_entryCount tp_fields _ h1) yk_X4_fieldOf lk_X3_44 iv_X4_fieldOf ⟨rfl, rfl⟩ ⟨Nat.le_of_ble_eq_true rfl, Nat.le_of_ble_eq_true rfl⟩ hl.1 1 rfl rfl [1, 2] [0] [0, 1, 2] rfl rfl rfl rfl (by decide) rfl rfl rfl rfl (Nat.le_of_ble_eq_true rfl) dX3_renewIf_7 ⟨Nat.zero_le _, Nat.zero_le _⟩ (fun H locs hW => ?_)
  refine lv_istore_n (lv' := [(3, .int o1), (0, .ref a_t), (1, .int x1), (2, .int x2)]) hx hb dX3_renewIf_10 rfl hl (by decide) rfl (fun ls hl => ?_)
  refine lv_iload_n hx hb dX3_renewIf_11 rfl (lv_at hl 0 rfl) ?_
  obtain ⟨o2, h2, hf⟩ := g_bnd hf
  refine gs_callSNi (ws' := w_X3_renewIf cI cZ cJ a_t a_tp a_tp_fields a_tk a_tp_parameterCounts a_tp_lengths a_tp_entries tp_functionCount tp_entryCount tp_fields) hC hW (k_X7_isNumber l tA dC dI cI cZ cJ o1 _ h2) yk_X7_isNumber ln_X3_102 is_X7_isNumber ⟨rfl, rfl⟩ ⟨Nat.le_of_ble_eq_true rfl, Nat.le_of_ble_eq_true rfl⟩ hl.1 [] [0, 1, 2] [0, 1, 2] rfl rfl rfl rfl (by decide) rfl rfl rfl rfl (Nat.le_of_ble_eq_true rfl) dX3_renewIf_12 ⟨Nat.zero_le _, Nat.zero_le _⟩ (fun H locs hW => ?_)
  refine lv_if_eq (tgt := 41) hx hb dX3_renewIf_15 (by decide) (fun c3 => ?_) (fun c3 => ?_)
  · replace hf := (if_pos c3).symm.trans hf
    obtain rfl := Option.some.inj hf
    exact gs_rv hC hW rfl dX3_renewIf_41
  · replace hf := (if_neg c3).symm.trans hf
    refine lv_aload_n hx hb dX3_renewIf_18 rfl (lv_at hl 1 rfl) ?_
    refine gs_get hC hW in_X3 0 0 rfl rfl (by decide) fl_X3_9 rfl dX3_renewIf_19 ?_
    refine lv_iload_n hx hb dX3_renewIf_22 rfl (lv_at hl 2 rfl) ?_
    refine lv_iload_n hx hb dX3_renewIf_23 rfl (lv_at hl 3 rfl) ?_
    refine lv_iconst (v := 0) hx hb dX3_renewIf_24 (by decide) ?_
    refine lv_iload_n hx hb dX3_renewIf_25 rfl (lv_at hl 0 rfl) ?_
    refine lv_iconst (v := 3) hx hb dX3_renewIf_26 (by decide) ?_
    refine lv_ishr hx hb dX3_renewIf_27 ?_
    refine lv_if_eq (tgt := 36) hx hb dX3_renewIf_28 (by decide) (fun c4 => ?_) (fun c4 => ?_)
    · replace hf := (if_pos c4).symm.trans hf
      refine lv_bipush (v := 12) hx hb dX3_renewIf_36 (by decide) ?_
      obtain ⟨o5, h5, hf⟩ := g_bnd hf
      refine gs_callVv (ws' := w_X3_renewIf cI cZ cJ a_t a_tp a_tp_fields a_tk a_tp_parameterCounts a_tp_lengths a_tp_entries tp_functionCount tp_entryCount o5) hC hW (k_X4_putField l tA dC dI cI cZ cJ a_tp a_tp_fields a_tp_parameterCounts a_tp_lengths a_tp_entries x1 x2 0 12 tp_functionCount tp_entryCount tp_fields _ h5) yk_X4_putField lk_X3_72 iv_X4_putField ⟨rfl, rfl⟩ ⟨Nat.le_of_ble_eq_true rfl, Nat.le_of_ble_eq_true rfl⟩ hl.1 1 rfl rfl [1, 2] [0] [0, 1, 2] rfl rfl rfl rfl (by decide) rfl rfl rfl rfl (Nat.le_of_ble_eq_true rfl) dX3_renewIf_38 ⟨Nat.zero_le _, Nat.zero_le _⟩ (fun H locs hW => ?_)
      obtain rfl := Option.some.inj hf
      exact gs_rv hC hW rfl dX3_renewIf_41
    · replace hf := (if_neg c4).symm.trans hf
      refine lv_bipush (v := 8) hx hb dX3_renewIf_31 (by decide) ?_
      refine lv_goto (tgt := 38) hx hb dX3_renewIf_33 (by decide) ?_
      obtain ⟨o6, h6, hf⟩ := g_bnd hf
      refine gs_callVv (ws' := w_X3_renewIf cI cZ cJ a_t a_tp a_tp_fields a_tk a_tp_parameterCounts a_tp_lengths a_tp_entries tp_functionCount tp_entryCount o6) hC hW (k_X4_putField l tA dC dI cI cZ cJ a_tp a_tp_fields a_tp_parameterCounts a_tp_lengths a_tp_entries x1 x2 0 8 tp_functionCount tp_entryCount tp_fields _ h6) yk_X4_putField lk_X3_72 iv_X4_putField ⟨rfl, rfl⟩ ⟨Nat.le_of_ble_eq_true rfl, Nat.le_of_ble_eq_true rfl⟩ hl.1 1 rfl rfl [1, 2] [0] [0, 1, 2] rfl rfl rfl rfl (by decide) rfl rfl rfl rfl (Nat.le_of_ble_eq_true rfl) dX3_renewIf_38 ⟨Nat.zero_le _, Nat.zero_le _⟩ (fun H locs hW => ?_)
      obtain rfl := Option.some.inj hf
      exact gs_rv hC hW rfl dX3_renewIf_41

abbrev w_X3_renew (cI cZ cJ : ClassId) (a_t : Nat) (a_tp : Nat) (a_tp_lengths : Nat) (a_tp_fields : Nat) (a_tp_entries : Nat) (a_tk : Nat) (a_tk_comeTo : Nat) (a_tk_any : Nat) (a_tk_numbers : Nat) (a_tp_parameterCounts : Nat) (tp_functionCount : Int32) (tp_entryCount : Int32) (tp_lengths : Nat → Int32) (tp_fields : Nat → Int32) (tp_entries : Nat → Int32) (tk_comeTo : Nat → Int32) (tk_any : Nat → Int32) (tk_numbers : Nat → Int32) : va_W := [(a_t, .inr (3, [.ref a_tp, .ref a_tk])), (a_tp, .inr (4, [.int tp_functionCount, .int tp_entryCount, .ref a_tp_parameterCounts, .ref a_tp_lengths, .ref a_tp_fields, .ref a_tp_entries])), (a_tp_lengths, .inl (cI, 12, .inl tp_lengths)), (a_tp_fields, .inl (cI, 1152, .inl tp_fields)), (a_tp_entries, .inl (cI, 4, .inl tp_entries)), (a_tk, .inr (1, [.ref a_tk_comeTo, .ref a_tk_any, .ref a_tk_numbers])), (a_tk_comeTo, .inl (cZ, 204, .inl tk_comeTo)), (a_tk_any, .inl (cZ, 1224, .inl tk_any)), (a_tk_numbers, .inl (cI, 1224, .inl tk_numbers))]
abbrev r_X3_renew : Room := { frames := 3, cells := 0, slots := 0, locals := 70 }
def f_X3_renew_47 (N : Nat) (x1 : Int32) (x2 : Int32) (tp_entryCount : Int32) (tp_lengths : Nat → Int32) (tp_entries : Nat → Int32) (tk_comeTo : Nat → Int32) (tk_any : Nat → Int32) (tk_numbers : Nat → Int32) : Nat → Int32 → Int32 → (Nat → Int32) → Option (Nat → Int32)
  | 0, _, _, _ => none
  | n + 1, x3, x4, tp_fields => (g_rd 13 g_usedI x3).bind (fun v1 => if v1 ≤ x4 then if x3 = 7 then (f_X3_renewIf x1 x2 tp_fields).bind (fun o7 => some o7) else if x3 = 11 then (f_X3_renewOperand x1 x2 2 tp_lengths tp_fields tk_any tk_numbers).bind (fun o5 => (f_X3_renewTableCall x1 x2 tp_entryCount o5 tp_entries).bind (fun o6 => some o6)) else some tp_fields else (f_X3_renewOperand x1 x2 (3 + x4) tp_lengths tp_fields tk_any tk_numbers).bind (fun o8 => f_X3_renew_47 N x1 x2 tp_entryCount tp_lengths tp_entries tk_comeTo tk_any tk_numbers n x3 (x4 + 1) o8))
set_option maxHeartbeats 4000000 in
set_option maxRecDepth 100000 in
theorem b_X3_renew_47 {p : Program} {l : Launch} {e : Env} {s : State} {m : MethodId} {args : Array Value} {below : List Frame} {meth : Method} {c : Code} {tA : Nat} {dC : Nat → ClassId} {dI : Nat → Nat → Nat} {cI cZ cJ : ClassId} {A : Nat → Prop} {a_t : Nat} {a_tp : Nat} {a_tp_lengths : Nat} {a_tp_fields : Nat} {a_tp_entries : Nat} {a_tk : Nat} {a_tk_comeTo : Nat} {a_tk_any : Nat} {a_tk_numbers : Nat} {a_tp_parameterCounts : Nat} {x1 : Int32} {x2 : Int32} {tp_entryCount : Int32} {tp_lengths : Nat → Int32} {tp_entries : Nat → Int32} {tk_comeTo : Nat → Int32} {tk_any : Nat → Int32} {tk_numbers : Nat → Int32} {tp_functionCount : Int32} {N : Nat} (hC : g_C p s m meth c args cX3_renew 5 (none : Option Jvm.ClassFile.FieldType) RX3) :
    ∀ (n : Nat) (x3 : Int32) (x4 : Int32) (tp_fields : Nat → Int32) (out : Nat → Int32), f_X3_renew_47 N x1 x2 tp_entryCount tp_lengths tp_entries tk_comeTo tk_any tk_numbers n x3 x4 tp_fields = some out → ∀ (H : Heap) (locs : List Loc) (ls : Array Slot), g_W tA dC dI cI cZ cJ A s H locs (w_X3_renew cI cZ cJ a_t a_tp a_tp_lengths a_tp_fields a_tp_entries a_tk a_tk_comeTo a_tk_any a_tk_numbers a_tp_parameterCounts tp_functionCount tp_entryCount tp_lengths tp_fields tp_entries tk_comeTo tk_any tk_numbers) → lv_has ls 5 [(0, .ref a_t), (1, .int x1), (2, .int x2), (3, .int x3), (4, .int x4)] → W p l e r_X3_renew s m args below meth c H locs 0 0 (MQ below (g_Qv dC dI cI cZ cJ A (w_X3_renew cI cZ cJ a_t a_tp a_tp_lengths a_tp_fields a_tp_entries a_tk a_tk_comeTo a_tk_any a_tk_numbers a_tp_parameterCounts tp_functionCount tp_entryCount tp_lengths out tp_entries tk_comeTo tk_any tk_numbers)) args s 0 0 A) (F0 m 47 ls []) := by
  have hx := hC.1
  have hb := hC.2.1
  have hown := hC.2.2.2.2.1
  have hts := hC.2.2.2.2.2.1
  intro n
  induction n with
  | zero =>
    intro x3 x4 tp_fields out hf
    exact g_no hf
  | succ n ih =>
    intro x3 x4 tp_fields out hf H locs ls hW hl
    refine lv_iload hx hb dX3_renew_47 (lv_at hl 4 rfl) ?_
    refine gs_usedN hC hW fs_X3_86 dX3_renew_49 ?_
    refine lv_iload_n hx hb dX3_renew_52 rfl (lv_at hl 3 rfl) ?_
    obtain ⟨v1, h1, hf⟩ := g_bnd hf
    refine gs_tald hC hW h1 dX3_renew_53 ?_
    refine lv_icmp_ge (tgt := 73) hx hb dX3_renew_54 (by decide) (fun c2 => ?_) (fun c2 => ?_)
    · replace hf := (if_pos c2).symm.trans hf
      refine lv_iload_n hx hb dX3_renew_73 rfl (lv_at hl 3 rfl) ?_
      refine lv_bipush (v := 7) hx hb dX3_renew_74 (by decide) ?_
      refine lv_icmp_ne (tgt := 88) hx hb dX3_renew_76 (by decide) (fun c3 => ?_) (fun c3 => ?_)
      · replace hf := (if_neg c3).symm.trans hf
        refine lv_iload_n hx hb dX3_renew_88 rfl (lv_at hl 3 rfl) ?_
        refine lv_bipush (v := 11) hx hb dX3_renew_89 (by decide) ?_
        refine lv_icmp_ne (tgt := 107) hx hb dX3_renew_91 (by decide) (fun c4 => ?_) (fun c4 => ?_)
        · replace hf := (if_neg c4).symm.trans hf
          obtain rfl := Option.some.inj hf
          exact gs_rv hC hW rfl dX3_renew_107
        · replace hf := (if_pos c4).symm.trans hf
          refine lv_aload_n hx hb dX3_renew_94 rfl (lv_at hl 0 rfl) ?_
          refine lv_iload_n hx hb dX3_renew_95 rfl (lv_at hl 1 rfl) ?_
          refine lv_iload_n hx hb dX3_renew_96 rfl (lv_at hl 2 rfl) ?_
          refine lv_iconst (v := 2) hx hb dX3_renew_97 (by decide) ?_
          obtain ⟨o5, h5, hf⟩ := g_bnd hf
          refine gs_callVv (ws' := w_X3_renew cI cZ cJ a_t a_tp a_tp_lengths a_tp_fields a_tp_entries a_tk a_tk_comeTo a_tk_any a_tk_numbers a_tp_parameterCounts tp_functionCount tp_entryCount tp_lengths o5 tp_entries tk_comeTo tk_any tk_numbers) hC hW (k_X3_renewOperand l tA dC dI cI cZ cJ a_t a_tp a_tp_lengths a_tp_fields a_tk a_tk_any a_tk_numbers a_tp_parameterCounts a_tp_entries a_tk_comeTo x1 x2 2 tp_functionCount tp_entryCount tp_lengths tp_fields tk_any tk_numbers _ h5) yk_X3_renewOperand lk_X3_89 iv_X3_renewOperand ⟨rfl, rfl⟩ ⟨Nat.le_of_ble_eq_true rfl, Nat.le_of_ble_eq_true rfl⟩ hl.1 0 rfl rfl [0, 1, 2, 3, 5, 7, 8] [4, 6] [2, 3, 4, 5, 0, 6, 1, 7, 8] rfl rfl rfl rfl (by decide) rfl rfl rfl rfl (Nat.le_of_ble_eq_true rfl) dX3_renew_98 ⟨Nat.zero_le _, Nat.zero_le _⟩ (fun H locs hW => ?_)
          refine lv_aload_n hx hb dX3_renew_101 rfl (lv_at hl 0 rfl) ?_
          refine lv_iload_n hx hb dX3_renew_102 rfl (lv_at hl 1 rfl) ?_
          refine lv_iload_n hx hb dX3_renew_103 rfl (lv_at hl 2 rfl) ?_
          obtain ⟨o6, h6, hf⟩ := g_bnd hf
          refine gs_callVv (ws' := w_X3_renew cI cZ cJ a_t a_tp a_tp_lengths a_tp_fields a_tp_entries a_tk a_tk_comeTo a_tk_any a_tk_numbers a_tp_parameterCounts tp_functionCount tp_entryCount tp_lengths o6 tp_entries tk_comeTo tk_any tk_numbers) hC hW (k_X3_renewTableCall l tA dC dI cI cZ cJ a_t a_tp a_tp_fields a_tp_entries a_tk a_tp_parameterCounts a_tp_lengths x1 x2 tp_functionCount tp_entryCount o5 tp_entries _ h6) yk_X3_renewTableCall lk_X3_96 iv_X3_renewTableCall ⟨rfl, rfl⟩ ⟨Nat.le_of_ble_eq_true rfl, Nat.le_of_ble_eq_true rfl⟩ hl.1 0 rfl rfl [0, 1, 3, 4] [2, 5, 6, 7, 8] [5, 6, 0, 7, 8, 1, 2, 3, 4] rfl rfl rfl rfl (by decide) rfl rfl rfl rfl (Nat.le_of_ble_eq_true rfl) dX3_renew_104 ⟨Nat.zero_le _, Nat.zero_le _⟩ (fun H locs hW => ?_)
          obtain rfl := Option.some.inj hf
          exact gs_rv hC hW rfl dX3_renew_107
      · replace hf := (if_pos c3).symm.trans hf
        refine lv_aload_n hx hb dX3_renew_79 rfl (lv_at hl 0 rfl) ?_
        refine lv_iload_n hx hb dX3_renew_80 rfl (lv_at hl 1 rfl) ?_
        refine lv_iload_n hx hb dX3_renew_81 rfl (lv_at hl 2 rfl) ?_
        obtain ⟨o7, h7, hf⟩ := g_bnd hf
        refine gs_callVv (ws' := w_X3_renew cI cZ cJ a_t a_tp a_tp_lengths a_tp_fields a_tp_entries a_tk a_tk_comeTo a_tk_any a_tk_numbers a_tp_parameterCounts tp_functionCount tp_entryCount tp_lengths o7 tp_entries tk_comeTo tk_any tk_numbers) hC hW (k_X3_renewIf l tA dC dI cI cZ cJ a_t a_tp a_tp_fields a_tk a_tp_parameterCounts a_tp_lengths a_tp_entries x1 x2 tp_functionCount tp_entryCount tp_fields _ h7) yk_X3_renewIf lk_X3_93 iv_X3_renewIf ⟨rfl, rfl⟩ ⟨Nat.le_of_ble_eq_true rfl, Nat.le_of_ble_eq_true rfl⟩ hl.1 0 rfl rfl [0, 1, 3] [2, 4, 5, 6, 7, 8] [6, 7, 0, 8, 1, 2, 3, 4, 5] rfl rfl rfl rfl (by decide) rfl rfl rfl rfl (Nat.le_of_ble_eq_true rfl) dX3_renew_82 ⟨Nat.zero_le _, Nat.zero_le _⟩ (fun H locs hW => ?_)
        refine lv_goto (tgt := 107) hx hb dX3_renew_85 (by decide) ?_
        obtain rfl := Option.some.inj hf
        exact gs_rv hC hW rfl dX3_renew_107
    · replace hf := (if_neg c2).symm.trans hf
      refine lv_aload_n hx hb dX3_renew_57 rfl (lv_at hl 0 rfl) ?_
      refine lv_iload_n hx hb dX3_renew_58 rfl (lv_at hl 1 rfl) ?_
      refine lv_iload_n hx hb dX3_renew_59 rfl (lv_at hl 2 rfl) ?_
      refine lv_iconst (v := 3) hx hb dX3_renew_60 (by decide) ?_
      refine lv_iload hx hb dX3_renew_61 (lv_at hl 4 rfl) ?_
      refine lv_iadd hx hb dX3_renew_63 ?_
      obtain ⟨o8, h8, hf⟩ := g_bnd hf
      refine gs_callVv (ws' := w_X3_renew cI cZ cJ a_t a_tp a_tp_lengths a_tp_fields a_tp_entries a_tk a_tk_comeTo a_tk_any a_tk_numbers a_tp_parameterCounts tp_functionCount tp_entryCount tp_lengths o8 tp_entries tk_comeTo tk_any tk_numbers) hC hW (k_X3_renewOperand l tA dC dI cI cZ cJ a_t a_tp a_tp_lengths a_tp_fields a_tk a_tk_any a_tk_numbers a_tp_parameterCounts a_tp_entries a_tk_comeTo x1 x2 (3 + x4) tp_functionCount tp_entryCount tp_lengths tp_fields tk_any tk_numbers _ h8) yk_X3_renewOperand lk_X3_89 iv_X3_renewOperand ⟨rfl, rfl⟩ ⟨Nat.le_of_ble_eq_true rfl, Nat.le_of_ble_eq_true rfl⟩ hl.1 0 rfl rfl [0, 1, 2, 3, 5, 7, 8] [4, 6] [2, 3, 4, 5, 0, 6, 1, 7, 8] rfl rfl rfl rfl (by decide) rfl rfl rfl rfl (Nat.le_of_ble_eq_true rfl) dX3_renew_64 ⟨Nat.zero_le _, Nat.zero_le _⟩ (fun H locs hW => ?_)
      refine lv_iinc (v := x4 + 1) (lv' := [(4, .int (x4 + 1)), (0, .ref a_t), (1, .int x1), (2, .int x2), (3, .int x3)]) hx hb dX3_renew_67 hl (k := 4) rfl rfl (by decide) rfl (fun ls hl => ?_)
      refine lv_goto (tgt := 47) hx hb dX3_renew_70 (by decide) ?_
      exact ih _ _ _ _ hf _ _ _ hW (lv_sub hl [1, 2, 3, 4, 0] rfl)
def f_X3_renew (N : Nat) (x1 : Int32) (x2 : Int32) (tp_entryCount : Int32) (tp_lengths : Nat → Int32) (tp_fields : Nat → Int32) (tp_entries : Nat → Int32) (tk_comeTo : Nat → Int32) (tk_any : Nat → Int32) (tk_numbers : Nat → Int32) : Option (Nat → Int32) := (f_X4_placeOf x1 x2 tp_lengths).bind (fun o9 => (g_rd 204 tk_comeTo o9).bind (fun v10 => if v10 = 0 then (f_X4_putField x1 x2 0 12 tp_fields).bind (fun o13 => some o13) else (f_X4_fieldOf x1 x2 0 tp_fields).bind (fun o12 => f_X3_renew_47 N x1 x2 tp_entryCount tp_lengths tp_entries tk_comeTo tk_any tk_numbers N o12 0 tp_fields)))
set_option maxHeartbeats 4000000 in
set_option maxRecDepth 100000 in
theorem k_X3_renew (l : Launch) (tA : Nat) (dC : Nat → ClassId) (dI : Nat → Nat → Nat) (cI cZ cJ : ClassId) (a_t : Nat) (a_tp : Nat) (a_tp_lengths : Nat) (a_tp_fields : Nat) (a_tp_entries : Nat) (a_tk : Nat) (a_tk_comeTo : Nat) (a_tk_any : Nat) (a_tk_numbers : Nat) (a_tp_parameterCounts : Nat) (N : Nat) (x1 : Int32) (x2 : Int32) (tp_functionCount : Int32) (tp_entryCount : Int32) (tp_lengths : Nat → Int32) (tp_fields : Nat → Int32) (tp_entries : Nat → Int32) (tk_comeTo : Nat → Int32) (tk_any : Nat → Int32) (tk_numbers : Nat → Int32) (out : Nat → Int32) (hf : f_X3_renew N x1 x2 tp_entryCount tp_lengths tp_fields tp_entries tk_comeTo tk_any tk_numbers = some out) : g_Mv l yX3_renew cX3_renew 5 (none : Option Jvm.ClassFile.FieldType) r_X3_renew tA dC dI cI cZ cJ [.ref a_t, .int x1, .int x2] (w_X3_renew cI cZ cJ a_t a_tp a_tp_lengths a_tp_fields a_tp_entries a_tk a_tk_comeTo a_tk_any a_tk_numbers a_tp_parameterCounts tp_functionCount tp_entryCount tp_lengths tp_fields tp_entries tk_comeTo tk_any tk_numbers) (w_X3_renew cI cZ cJ a_t a_tp a_tp_lengths a_tp_fields a_tp_entries a_tk a_tk_comeTo a_tk_any a_tk_numbers a_tp_parameterCounts tp_functionCount tp_entryCount tp_lengths out tp_entries tk_comeTo tk_any tk_numbers) := by
  unfold f_X3_renew at hf
  refine ge_v (by decide) (Nat.le_of_ble_eq_true rfl) (fun p e s m below meth c A H locs ls hC hW hl => ?_)
  have hC : g_C p s m meth c _ cX3_renew 5 (none : Option Jvm.ClassFile.FieldType) RX3 := hC
  have hx := hC.1
  have hb := hC.2.1
  have hown := hC.2.2.2.2.1
  have hts := hC.2.2.2.2.2.1
  have hl : lv_has ls 5 [(0, .ref a_t), (1, .int x1), (2, .int x2)] := hl
  refine lv_aload_n hx hb dX3_renew_0 rfl (lv_at hl 0 rfl) ?_
  refine gs_get hC hW in_X3 0 1 rfl rfl (by decide) fl_X3_15 rfl dX3_renew_1 ?_
  refine gs_get hC hW in_X1 5 0 rfl rfl (by decide) fl_X3_48 rfl dX3_renew_4 ?_
  refine lv_aload_n hx hb dX3_renew_7 rfl (lv_at hl 0 rfl) ?_
  refine gs_get hC hW in_X3 0 0 rfl rfl (by decide) fl_X3_9 rfl dX3_renew_8 ?_
  refine lv_iload_n hx hb dX3_renew_11 rfl (lv_at hl 1 rfl) ?_
  refine lv_iload_n hx hb dX3_renew_12 rfl (lv_at hl 2 rfl) ?_
  obtain ⟨o9, h9, hf⟩ := g_bnd hf
  refine gs_callVi (ws' := w_X3_renew cI cZ cJ a_t a_tp a_tp_lengths a_tp_fields a_tp_entries a_tk a_tk_comeTo a_tk_any a_tk_numbers a_tp_parameterCounts tp_functionCount tp_entryCount tp_lengths tp_fields tp_entries tk_comeTo tk_any tk_numbers) hC hW (k_X4_placeOf l tA dC dI cI cZ cJ a_tp a_tp_lengths a_tp_parameterCounts a_tp_fields a_tp_entries x1 x2 tp_functionCount tp_entryCount tp_lengths _ h9) yk_X4_placeOf lk_X3_54 iv_X4_placeOf ⟨rfl, rfl⟩ ⟨Nat.le_of_ble_eq_true rfl, Nat.le_of_ble_eq_true rfl⟩ hl.1 1 rfl rfl [1, 2] [0, 3, 4, 5, 6, 7, 8] [0, 7, 8, 1, 2, 3, 4, 5, 6] rfl rfl rfl rfl (by decide) rfl rfl rfl rfl (Nat.le_of_ble_eq_true rfl) dX3_renew_13 ⟨Nat.zero_le _, Nat.zero_le _⟩ (fun H locs hW => ?_)
  obtain ⟨v10, h10, hf⟩ := g_bnd hf
  refine gs_zald hC hW 6 h10 rfl dX3_renew_16 ?_
  refine lv_if_ne (tgt := 33) hx hb dX3_renew_17 (by decide) (fun c11 => ?_) (fun c11 => ?_)
  · replace hf := (if_neg c11).symm.trans hf
    refine lv_aload_n hx hb dX3_renew_33 rfl (lv_at hl 0 rfl) ?_
    refine gs_get hC hW in_X3 0 0 rfl rfl (by decide) fl_X3_9 rfl dX3_renew_34 ?_
    refine lv_iload_n hx hb dX3_renew_37 rfl (lv_at hl 1 rfl) ?_
    refine lv_iload_n hx hb dX3_renew_38 rfl (lv_at hl 2 rfl) ?_
    refine lv_iconst (v := 0) hx hb dX3_renew_39 (by decide) ?_
    obtain ⟨o12, h12, hf⟩ := g_bnd hf
    refine gs_callVi (ws' := w_X3_renew cI cZ cJ a_t a_tp a_tp_lengths a_tp_fields a_tp_entries a_tk a_tk_comeTo a_tk_any a_tk_numbers a_tp_parameterCounts tp_functionCount tp_entryCount tp_lengths tp_fields tp_entries tk_comeTo tk_any tk_numbers) hC hW (k_X4_fieldOf l tA dC dI cI cZ cJ a_tp a_tp_fields a_tp_parameterCounts a_tp_lengths a_tp_entries x1 x2 0 tp_functionCount tp_entryCount tp_fields _ h12) yk_X4_fieldOf lk_X3_44 iv_X4_fieldOf ⟨rfl, rfl⟩ ⟨Nat.le_of_ble_eq_true rfl, Nat.le_of_ble_eq_true rfl⟩ hl.1 1 rfl rfl [1, 3] [0, 2, 4, 5, 6, 7, 8] [0, 7, 1, 8, 2, 3, 4, 5, 6] rfl rfl rfl rfl (by decide) rfl rfl rfl rfl (Nat.le_of_ble_eq_true rfl) dX3_renew_40 ⟨Nat.zero_le _, Nat.zero_le _⟩ (fun H locs hW => ?_)
    refine lv_istore_n (lv' := [(3, .int o12), (0, .ref a_t), (1, .int x1), (2, .int x2)]) hx hb dX3_renew_43 rfl hl (by decide) rfl (fun ls hl => ?_)
    refine lv_iconst (v := 0) hx hb dX3_renew_44 (by decide) ?_
    refine lv_istore (lv' := [(4, .int 0), (3, .int o12), (0, .ref a_t), (1, .int x1), (2, .int x2)]) hx hb dX3_renew_45 hl (by decide) rfl (fun ls hl => ?_)
    exact b_X3_renew_47 hC N _ _ _ _ hf _ _ _ hW (lv_sub hl [2, 3, 4, 1, 0] rfl)
  · replace hf := (if_pos c11).symm.trans hf
    refine lv_aload_n hx hb dX3_renew_20 rfl (lv_at hl 0 rfl) ?_
    refine gs_get hC hW in_X3 0 0 rfl rfl (by decide) fl_X3_9 rfl dX3_renew_21 ?_
    refine lv_iload_n hx hb dX3_renew_24 rfl (lv_at hl 1 rfl) ?_
    refine lv_iload_n hx hb dX3_renew_25 rfl (lv_at hl 2 rfl) ?_
    refine lv_iconst (v := 0) hx hb dX3_renew_26 (by decide) ?_
    refine lv_bipush (v := 12) hx hb dX3_renew_27 (by decide) ?_
    obtain ⟨o13, h13, hf⟩ := g_bnd hf
    refine gs_callVv (ws' := w_X3_renew cI cZ cJ a_t a_tp a_tp_lengths a_tp_fields a_tp_entries a_tk a_tk_comeTo a_tk_any a_tk_numbers a_tp_parameterCounts tp_functionCount tp_entryCount tp_lengths o13 tp_entries tk_comeTo tk_any tk_numbers) hC hW (k_X4_putField l tA dC dI cI cZ cJ a_tp a_tp_fields a_tp_parameterCounts a_tp_lengths a_tp_entries x1 x2 0 12 tp_functionCount tp_entryCount tp_fields _ h13) yk_X4_putField lk_X3_72 iv_X4_putField ⟨rfl, rfl⟩ ⟨Nat.le_of_ble_eq_true rfl, Nat.le_of_ble_eq_true rfl⟩ hl.1 1 rfl rfl [1, 3] [0, 2, 4, 5, 6, 7, 8] [0, 7, 1, 8, 2, 3, 4, 5, 6] rfl rfl rfl rfl (by decide) rfl rfl rfl rfl (Nat.le_of_ble_eq_true rfl) dX3_renew_29 ⟨Nat.zero_le _, Nat.zero_le _⟩ (fun H locs hW => ?_)
    obtain rfl := Option.some.inj hf
    exact gs_rv hC hW rfl dX3_renew_32

abbrev w_X3_makeNewProgram (cI cZ cJ : ClassId) (a_t : Nat) (a_tp : Nat) (a_tp_lengths : Nat) (a_tp_fields : Nat) (a_tp_entries : Nat) (a_tk : Nat) (a_tk_comeTo : Nat) (a_tk_any : Nat) (a_tk_numbers : Nat) (a_tp_parameterCounts : Nat) (tp_functionCount : Int32) (tp_entryCount : Int32) (tp_lengths : Nat → Int32) (tp_fields : Nat → Int32) (tp_entries : Nat → Int32) (tk_comeTo : Nat → Int32) (tk_any : Nat → Int32) (tk_numbers : Nat → Int32) : va_W := [(a_t, .inr (3, [.ref a_tp, .ref a_tk])), (a_tp, .inr (4, [.int tp_functionCount, .int tp_entryCount, .ref a_tp_parameterCounts, .ref a_tp_lengths, .ref a_tp_fields, .ref a_tp_entries])), (a_tp_lengths, .inl (cI, 12, .inl tp_lengths)), (a_tp_fields, .inl (cI, 1152, .inl tp_fields)), (a_tp_entries, .inl (cI, 4, .inl tp_entries)), (a_tk, .inr (1, [.ref a_tk_comeTo, .ref a_tk_any, .ref a_tk_numbers])), (a_tk_comeTo, .inl (cZ, 204, .inl tk_comeTo)), (a_tk_any, .inl (cZ, 1224, .inl tk_any)), (a_tk_numbers, .inl (cI, 1224, .inl tk_numbers))]
abbrev r_X3_makeNewProgram : Room := { frames := 4, cells := 0, slots := 0, locals := 94 }
def f_X3_makeNewProgram_26 (N : Nat) (k2 : Int32 → (Nat → Int32) → (Nat → Int32) → Option ((Nat → Int32) × (Nat → Int32))) (tp_functionCount : Int32) (tp_entryCount : Int32) (tp_entries : Nat → Int32) (tk_comeTo : Nat → Int32) (tk_any : Nat → Int32) (tk_numbers : Nat → Int32) : Nat → Int32 → Int32 → (Nat → Int32) → (Nat → Int32) → Option ((Nat → Int32) × (Nat → Int32))
  | 0, _, _, _, _ => none
  | n + 1, x1, x2, tp_lengths, tp_fields => (g_rd 12 tp_lengths x1).bind (fun v1 => if v1 ≤ x2 then k2 (x1 + 1) tp_lengths tp_fields else (f_X3_renew N x1 x2 tp_entryCount tp_lengths tp_fields tp_entries tk_comeTo tk_any tk_numbers).bind (fun o3 => f_X3_makeNewProgram_26 N k2 tp_functionCount tp_entryCount tp_entries tk_comeTo tk_any tk_numbers n x1 (x2 + 1) tp_lengths o3))
set_option maxHeartbeats 4000000 in
set_option maxRecDepth 100000 in
theorem b_X3_makeNewProgram_26 {p : Program} {l : Launch} {e : Env} {s : State} {m : MethodId} {args : Array Value} {below : List Frame} {meth : Method} {c : Code} {tA : Nat} {dC : Nat → ClassId} {dI : Nat → Nat → Nat} {cI cZ cJ : ClassId} {A : Nat → Prop} {a_t : Nat} {a_tp : Nat} {a_tp_lengths : Nat} {a_tp_fields : Nat} {a_tp_entries : Nat} {a_tk : Nat} {a_tk_comeTo : Nat} {a_tk_any : Nat} {a_tk_numbers : Nat} {a_tp_parameterCounts : Nat} {tp_functionCount : Int32} {tp_entryCount : Int32} {tp_entries : Nat → Int32} {tk_comeTo : Nat → Int32} {tk_any : Nat → Int32} {tk_numbers : Nat → Int32} {N : Nat} {k2 : Int32 → (Nat → Int32) → (Nat → Int32) → Option ((Nat → Int32) × (Nat → Int32))} (hC : g_C p s m meth c args cX3_makeNewProgram 3 (none : Option Jvm.ClassFile.FieldType) RX3) (hk2 : ∀ (x1 : Int32) (tp_lengths : Nat → Int32) (tp_fields : Nat → Int32) (out : (Nat → Int32) × (Nat → Int32)), k2 x1 tp_lengths tp_fields = some out → ∀ (H : Heap) (locs : List Loc) (ls : Array Slot), g_W tA dC dI cI cZ cJ A s H locs (w_X3_makeNewProgram cI cZ cJ a_t a_tp a_tp_lengths a_tp_fields a_tp_entries a_tk a_tk_comeTo a_tk_any a_tk_numbers a_tp_parameterCounts tp_functionCount tp_entryCount tp_lengths tp_fields tp_entries tk_comeTo tk_any tk_numbers) → lv_has ls 3 [(0, .ref a_t), (1, .int x1)] → W p l e r_X3_makeNewProgram s m args below meth c H locs 0 0 (MQ below (g_Qv dC dI cI cZ cJ A (w_X3_makeNewProgram cI cZ cJ a_t a_tp a_tp_lengths a_tp_fields a_tp_entries a_tk a_tk_comeTo a_tk_any a_tk_numbers a_tp_parameterCounts tp_functionCount tp_entryCount out.1 out.2 tp_entries tk_comeTo tk_any tk_numbers)) args s 0 0 A) (F0 m 2 ls [])) :
    ∀ (n : Nat) (x1 : Int32) (x2 : Int32) (tp_lengths : Nat → Int32) (tp_fields : Nat → Int32) (out : (Nat → Int32) × (Nat → Int32)), f_X3_makeNewProgram_26 N k2 tp_functionCount tp_entryCount tp_entries tk_comeTo tk_any tk_numbers n x1 x2 tp_lengths tp_fields = some out → ∀ (H : Heap) (locs : List Loc) (ls : Array Slot), g_W tA dC dI cI cZ cJ A s H locs (w_X3_makeNewProgram cI cZ cJ a_t a_tp a_tp_lengths a_tp_fields a_tp_entries a_tk a_tk_comeTo a_tk_any a_tk_numbers a_tp_parameterCounts tp_functionCount tp_entryCount tp_lengths tp_fields tp_entries tk_comeTo tk_any tk_numbers) → lv_has ls 3 [(0, .ref a_t), (1, .int x1), (2, .int x2)] → W p l e r_X3_makeNewProgram s m args below meth c H locs 0 0 (MQ below (g_Qv dC dI cI cZ cJ A (w_X3_makeNewProgram cI cZ cJ a_t a_tp a_tp_lengths a_tp_fields a_tp_entries a_tk a_tk_comeTo a_tk_any a_tk_numbers a_tp_parameterCounts tp_functionCount tp_entryCount out.1 out.2 tp_entries tk_comeTo tk_any tk_numbers)) args s 0 0 A) (F0 m 26 ls []) := by
  have hx := hC.1
  have hb := hC.2.1
  have hown := hC.2.2.2.2.1
  have hts := hC.2.2.2.2.2.1
  intro n
  induction n with
  | zero =>
    intro x1 x2 tp_lengths tp_fields out hf
    exact g_no hf
  | succ n ih =>
    intro x1 x2 tp_lengths tp_fields out hf H locs ls hW hl
    refine lv_iload_n hx hb dX3_makeNewProgram_26 rfl (lv_at hl 2 rfl) ?_
    refine lv_aload_n hx hb dX3_makeNewProgram_27 rfl (lv_at hl 0 rfl) ?_
    refine gs_get hC hW in_X3 0 0 rfl rfl (by decide) fl_X3_9 rfl dX3_makeNewProgram_28 ?_
    refine gs_get hC hW in_X4 1 3 rfl rfl (by decide) fl_X3_33 rfl dX3_makeNewProgram_31 ?_
    refine lv_iload_n hx hb dX3_makeNewProgram_34 rfl (lv_at hl 1 rfl) ?_
    obtain ⟨v1, h1, hf⟩ := g_bnd hf
    refine gs_iald hC hW 2 h1 rfl dX3_makeNewProgram_35 ?_
    refine lv_icmp_ge (tgt := 51) hx hb dX3_makeNewProgram_36 (by decide) (fun c2 => ?_) (fun c2 => ?_)
    · replace hf := (if_pos c2).symm.trans hf
      refine lv_goto (tgt := 64) hx hb dX3_makeNewProgram_51 (by decide) ?_
      refine lv_iinc (v := x1 + 1) (lv' := [(1, .int (x1 + 1)), (0, .ref a_t), (2, .int x2)]) hx hb dX3_makeNewProgram_64 hl (k := 1) rfl rfl (by decide) rfl (fun ls hl => ?_)
      refine lv_goto (tgt := 2) hx hb dX3_makeNewProgram_67 (by decide) ?_
      exact hk2 _ _ _ _ hf _ _ _ hW (lv_sub hl [1, 0] rfl)
    · replace hf := (if_neg c2).symm.trans hf
      refine lv_aload_n hx hb dX3_makeNewProgram_39 rfl (lv_at hl 0 rfl) ?_
      refine lv_iload_n hx hb dX3_makeNewProgram_40 rfl (lv_at hl 1 rfl) ?_
      refine lv_iload_n hx hb dX3_makeNewProgram_41 rfl (lv_at hl 2 rfl) ?_
      obtain ⟨o3, h3, hf⟩ := g_bnd hf
      refine gs_callVv (ws' := w_X3_makeNewProgram cI cZ cJ a_t a_tp a_tp_lengths a_tp_fields a_tp_entries a_tk a_tk_comeTo a_tk_any a_tk_numbers a_tp_parameterCounts tp_functionCount tp_entryCount tp_lengths o3 tp_entries tk_comeTo tk_any tk_numbers) hC hW (k_X3_renew l tA dC dI cI cZ cJ a_t a_tp a_tp_lengths a_tp_fields a_tp_entries a_tk a_tk_comeTo a_tk_any a_tk_numbers a_tp_parameterCounts N x1 x2 tp_functionCount tp_entryCount tp_lengths tp_fields tp_entries tk_comeTo tk_any tk_numbers _ h3) yk_X3_renew lk_X3_83 iv_X3_renew ⟨rfl, rfl⟩ ⟨Nat.le_of_ble_eq_true rfl, Nat.le_of_ble_eq_true rfl⟩ hl.1 0 rfl rfl [0, 1, 2, 3, 4, 5, 6, 7, 8] [] [0, 1, 2, 3, 4, 5, 6, 7, 8] rfl rfl rfl rfl (by decide) rfl rfl rfl rfl (Nat.le_of_ble_eq_true rfl) dX3_makeNewProgram_42 ⟨Nat.zero_le _, Nat.zero_le _⟩ (fun H locs hW => ?_)
      refine lv_iinc (v := x2 + 1) (lv' := [(2, .int (x2 + 1)), (0, .ref a_t), (1, .int x1)]) hx hb dX3_makeNewProgram_45 hl (k := 2) rfl rfl (by decide) rfl (fun ls hl => ?_)
      refine lv_goto (tgt := 26) hx hb dX3_makeNewProgram_48 (by decide) ?_
      exact ih _ _ _ _ _ hf _ _ _ hW (lv_sub hl [1, 2, 0] rfl)
def f_X3_makeNewProgram_2 (N : Nat) (tp_functionCount : Int32) (tp_entryCount : Int32) (tp_entries : Nat → Int32) (tk_comeTo : Nat → Int32) (tk_any : Nat → Int32) (tk_numbers : Nat → Int32) : Nat → Int32 → (Nat → Int32) → (Nat → Int32) → Option ((Nat → Int32) × (Nat → Int32))
  | 0, _, _, _ => none
  | n + 1, x1, tp_lengths, tp_fields => if tp_functionCount ≤ x1 then some (tp_lengths, tp_fields) else (f_X1_isReached x1 tk_comeTo).bind (fun o5 => if o5 = 0 then (g_wr 12 tp_lengths x1 0).bind (fun s7 => f_X3_makeNewProgram_2 N tp_functionCount tp_entryCount tp_entries tk_comeTo tk_any tk_numbers n (x1 + 1) s7 tp_fields) else f_X3_makeNewProgram_26 N (f_X3_makeNewProgram_2 N tp_functionCount tp_entryCount tp_entries tk_comeTo tk_any tk_numbers n) tp_functionCount tp_entryCount tp_entries tk_comeTo tk_any tk_numbers N x1 0 tp_lengths tp_fields)
set_option maxHeartbeats 4000000 in
set_option maxRecDepth 100000 in
theorem b_X3_makeNewProgram_2 {p : Program} {l : Launch} {e : Env} {s : State} {m : MethodId} {args : Array Value} {below : List Frame} {meth : Method} {c : Code} {tA : Nat} {dC : Nat → ClassId} {dI : Nat → Nat → Nat} {cI cZ cJ : ClassId} {A : Nat → Prop} {a_t : Nat} {a_tp : Nat} {a_tp_lengths : Nat} {a_tp_fields : Nat} {a_tp_entries : Nat} {a_tk : Nat} {a_tk_comeTo : Nat} {a_tk_any : Nat} {a_tk_numbers : Nat} {a_tp_parameterCounts : Nat} {tp_functionCount : Int32} {tp_entryCount : Int32} {tp_entries : Nat → Int32} {tk_comeTo : Nat → Int32} {tk_any : Nat → Int32} {tk_numbers : Nat → Int32} {N : Nat} (hC : g_C p s m meth c args cX3_makeNewProgram 3 (none : Option Jvm.ClassFile.FieldType) RX3) :
    ∀ (n : Nat) (x1 : Int32) (tp_lengths : Nat → Int32) (tp_fields : Nat → Int32) (out : (Nat → Int32) × (Nat → Int32)), f_X3_makeNewProgram_2 N tp_functionCount tp_entryCount tp_entries tk_comeTo tk_any tk_numbers n x1 tp_lengths tp_fields = some out → ∀ (H : Heap) (locs : List Loc) (ls : Array Slot), g_W tA dC dI cI cZ cJ A s H locs (w_X3_makeNewProgram cI cZ cJ a_t a_tp a_tp_lengths a_tp_fields a_tp_entries a_tk a_tk_comeTo a_tk_any a_tk_numbers a_tp_parameterCounts tp_functionCount tp_entryCount tp_lengths tp_fields tp_entries tk_comeTo tk_any tk_numbers) → lv_has ls 3 [(0, .ref a_t), (1, .int x1)] → W p l e r_X3_makeNewProgram s m args below meth c H locs 0 0 (MQ below (g_Qv dC dI cI cZ cJ A (w_X3_makeNewProgram cI cZ cJ a_t a_tp a_tp_lengths a_tp_fields a_tp_entries a_tk a_tk_comeTo a_tk_any a_tk_numbers a_tp_parameterCounts tp_functionCount tp_entryCount out.1 out.2 tp_entries tk_comeTo tk_any tk_numbers)) args s 0 0 A) (F0 m 2 ls []) := by
  have hx := hC.1
  have hb := hC.2.1
  have hown := hC.2.2.2.2.1
  have hts := hC.2.2.2.2.2.1
  intro n
  induction n with
  | zero =>
    intro x1 tp_lengths tp_fields out hf
    exact g_no hf
  | succ n ih =>
    intro x1 tp_lengths tp_fields out hf H locs ls hW hl
    refine lv_iload_n hx hb dX3_makeNewProgram_2 rfl (lv_at hl 1 rfl) ?_
    refine lv_aload_n hx hb dX3_makeNewProgram_3 rfl (lv_at hl 0 rfl) ?_
    refine gs_get hC hW in_X3 0 0 rfl rfl (by decide) fl_X3_9 rfl dX3_makeNewProgram_4 ?_
    refine gs_get hC hW in_X4 1 0 rfl rfl (by decide) fl_X3_27 rfl dX3_makeNewProgram_7 ?_
    refine lv_icmp_ge (tgt := 70) hx hb dX3_makeNewProgram_10 (by decide) (fun c4 => ?_) (fun c4 => ?_)
    · replace hf := (if_pos c4).symm.trans hf
      obtain rfl := Option.some.inj hf
      exact gs_rv hC hW rfl dX3_makeNewProgram_70
    · replace hf := (if_neg c4).symm.trans hf
      refine lv_aload_n hx hb dX3_makeNewProgram_13 rfl (lv_at hl 0 rfl) ?_
      refine gs_get hC hW in_X3 0 1 rfl rfl (by decide) fl_X3_15 rfl dX3_makeNewProgram_14 ?_
      refine lv_iload_n hx hb dX3_makeNewProgram_17 rfl (lv_at hl 1 rfl) ?_
      obtain ⟨o5, h5, hf⟩ := g_bnd hf
      refine gs_callVi (ws' := w_X3_makeNewProgram cI cZ cJ a_t a_tp a_tp_lengths a_tp_fields a_tp_entries a_tk a_tk_comeTo a_tk_any a_tk_numbers a_tp_parameterCounts tp_functionCount tp_entryCount tp_lengths tp_fields tp_entries tk_comeTo tk_any tk_numbers) hC hW (k_X1_isReached l tA dC dI cI cZ cJ a_tk a_tk_comeTo a_tk_any a_tk_numbers x1 tk_comeTo _ h5) yk_X1_isReached lk_X3_79 iv_X1_isReached ⟨rfl, rfl⟩ ⟨Nat.le_of_ble_eq_true rfl, Nat.le_of_ble_eq_true rfl⟩ hl.1 5 rfl rfl [5, 6] [0, 1, 2, 3, 4, 7, 8] [0, 1, 2, 3, 4, 7, 8, 5, 6] rfl rfl rfl rfl (by decide) rfl rfl rfl rfl (Nat.le_of_ble_eq_true rfl) dX3_makeNewProgram_18 ⟨Nat.zero_le _, Nat.zero_le _⟩ (fun H locs hW => ?_)
      refine lv_if_eq (tgt := 54) hx hb dX3_makeNewProgram_21 (by decide) (fun c6 => ?_) (fun c6 => ?_)
      · replace hf := (if_pos c6).symm.trans hf
        refine lv_aload_n hx hb dX3_makeNewProgram_54 rfl (lv_at hl 0 rfl) ?_
        refine gs_get hC hW in_X3 0 0 rfl rfl (by decide) fl_X3_9 rfl dX3_makeNewProgram_55 ?_
        refine gs_get hC hW in_X4 1 3 rfl rfl (by decide) fl_X3_33 rfl dX3_makeNewProgram_58 ?_
        refine lv_iload_n hx hb dX3_makeNewProgram_61 rfl (lv_at hl 1 rfl) ?_
        refine lv_iconst (v := 0) hx hb dX3_makeNewProgram_62 (by decide) ?_
        obtain ⟨s7, h7, hf⟩ := g_bnd hf
        refine gs_iast (ws' := w_X3_makeNewProgram cI cZ cJ a_t a_tp a_tp_lengths a_tp_fields a_tp_entries a_tk a_tk_comeTo a_tk_any a_tk_numbers a_tp_parameterCounts tp_functionCount tp_entryCount s7 tp_fields tp_entries tk_comeTo tk_any tk_numbers) hC hW 2 h7 rfl rfl dX3_makeNewProgram_63 (fun H locs hW => ?_)
        refine lv_iinc (v := x1 + 1) (lv' := [(1, .int (x1 + 1)), (0, .ref a_t)]) hx hb dX3_makeNewProgram_64 hl (k := 1) rfl rfl (by decide) rfl (fun ls hl => ?_)
        refine lv_goto (tgt := 2) hx hb dX3_makeNewProgram_67 (by decide) ?_
        exact ih _ _ _ _ hf _ _ _ hW (lv_sub hl [1, 0] rfl)
      · replace hf := (if_neg c6).symm.trans hf
        refine lv_iconst (v := 0) hx hb dX3_makeNewProgram_24 (by decide) ?_
        refine lv_istore_n (lv' := [(2, .int 0), (0, .ref a_t), (1, .int x1)]) hx hb dX3_makeNewProgram_25 rfl hl (by decide) rfl (fun ls hl => ?_)
        exact b_X3_makeNewProgram_26 hC ih N _ _ _ _ _ hf _ _ _ hW (lv_sub hl [1, 2, 0] rfl)
def f_X3_makeNewProgram (N : Nat) (tp_functionCount : Int32) (tp_entryCount : Int32) (tp_lengths : Nat → Int32) (tp_fields : Nat → Int32) (tp_entries : Nat → Int32) (tk_comeTo : Nat → Int32) (tk_any : Nat → Int32) (tk_numbers : Nat → Int32) : Option ((Nat → Int32) × (Nat → Int32)) := f_X3_makeNewProgram_2 N tp_functionCount tp_entryCount tp_entries tk_comeTo tk_any tk_numbers N 0 tp_lengths tp_fields
set_option maxHeartbeats 4000000 in
set_option maxRecDepth 100000 in
theorem k_X3_makeNewProgram (l : Launch) (tA : Nat) (dC : Nat → ClassId) (dI : Nat → Nat → Nat) (cI cZ cJ : ClassId) (a_t : Nat) (a_tp : Nat) (a_tp_lengths : Nat) (a_tp_fields : Nat) (a_tp_entries : Nat) (a_tk : Nat) (a_tk_comeTo : Nat) (a_tk_any : Nat) (a_tk_numbers : Nat) (a_tp_parameterCounts : Nat) (N : Nat) (tp_functionCount : Int32) (tp_entryCount : Int32) (tp_lengths : Nat → Int32) (tp_fields : Nat → Int32) (tp_entries : Nat → Int32) (tk_comeTo : Nat → Int32) (tk_any : Nat → Int32) (tk_numbers : Nat → Int32) (out : (Nat → Int32) × (Nat → Int32)) (hf : f_X3_makeNewProgram N tp_functionCount tp_entryCount tp_lengths tp_fields tp_entries tk_comeTo tk_any tk_numbers = some out) : g_Mv l yX3_makeNewProgram cX3_makeNewProgram 3 (none : Option Jvm.ClassFile.FieldType) r_X3_makeNewProgram tA dC dI cI cZ cJ [.ref a_t] (w_X3_makeNewProgram cI cZ cJ a_t a_tp a_tp_lengths a_tp_fields a_tp_entries a_tk a_tk_comeTo a_tk_any a_tk_numbers a_tp_parameterCounts tp_functionCount tp_entryCount tp_lengths tp_fields tp_entries tk_comeTo tk_any tk_numbers) (w_X3_makeNewProgram cI cZ cJ a_t a_tp a_tp_lengths a_tp_fields a_tp_entries a_tk a_tk_comeTo a_tk_any a_tk_numbers a_tp_parameterCounts tp_functionCount tp_entryCount out.1 out.2 tp_entries tk_comeTo tk_any tk_numbers) := by
  unfold f_X3_makeNewProgram at hf
  refine ge_v (by decide) (Nat.le_of_ble_eq_true rfl) (fun p e s m below meth c A H locs ls hC hW hl => ?_)
  have hC : g_C p s m meth c _ cX3_makeNewProgram 3 (none : Option Jvm.ClassFile.FieldType) RX3 := hC
  have hx := hC.1
  have hb := hC.2.1
  have hown := hC.2.2.2.2.1
  have hts := hC.2.2.2.2.2.1
  have hl : lv_has ls 3 [(0, .ref a_t)] := hl
  refine lv_iconst (v := 0) hx hb dX3_makeNewProgram_0 (by decide) ?_
  refine lv_istore_n (lv' := [(1, .int 0), (0, .ref a_t)]) hx hb dX3_makeNewProgram_1 rfl hl (by decide) rfl (fun ls hl => ?_)
  exact b_X3_makeNewProgram_2 hC N _ _ _ _ hf _ _ _ hW (lv_sub hl [1, 0] rfl)

abbrev w_X3_isCallComeTo (cI cZ cJ : ClassId) (a_t : Nat) (a_tp : Nat) (a_tp_lengths : Nat) (a_tp_fields : Nat) (a_tk : Nat) (a_tk_comeTo : Nat) (a_tp_parameterCounts : Nat) (a_tp_entries : Nat) (a_tk_any : Nat) (a_tk_numbers : Nat) (tp_functionCount : Int32) (tp_entryCount : Int32) (tp_lengths : Nat → Int32) (tp_fields : Nat → Int32) (tk_comeTo : Nat → Int32) : va_W := [(a_t, .inr (3, [.ref a_tp, .ref a_tk])), (a_tp, .inr (4, [.int tp_functionCount, .int tp_entryCount, .ref a_tp_parameterCounts, .ref a_tp_lengths, .ref a_tp_fields, .ref a_tp_entries])), (a_tp_lengths, .inl (cI, 12, .inl tp_lengths)), (a_tp_fields, .inl (cI, 1152, .inl tp_fields)), (a_tk, .inr (1, [.ref a_tk_comeTo, .ref a_tk_any, .ref a_tk_numbers])), (a_tk_comeTo, .inl (cZ, 204, .inl tk_comeTo))]
abbrev r_X3_isCallComeTo : Room := { frames := 2, cells := 0, slots := 0, locals := 44 }
def f_X3_isCallComeTo (x1 : Int32) (x2 : Int32) (tp_lengths : Nat → Int32) (tp_fields : Nat → Int32) (tk_comeTo : Nat → Int32) : Option (Int32) := (f_X4_fieldOf x1 x2 0 tp_fields).bind (fun o1 => if o1 = 10 then (f_X4_placeOf x1 x2 tp_lengths).bind (fun o3 => (g_rd 204 tk_comeTo o3).bind (fun v4 => if v4 = 0 then some 0 else some 1)) else some 0)
set_option maxHeartbeats 4000000 in
set_option maxRecDepth 100000 in
theorem k_X3_isCallComeTo (l : Launch) (tA : Nat) (dC : Nat → ClassId) (dI : Nat → Nat → Nat) (cI cZ cJ : ClassId) (a_t : Nat) (a_tp : Nat) (a_tp_lengths : Nat) (a_tp_fields : Nat) (a_tk : Nat) (a_tk_comeTo : Nat) (a_tp_parameterCounts : Nat) (a_tp_entries : Nat) (a_tk_any : Nat) (a_tk_numbers : Nat) (x1 : Int32) (x2 : Int32) (tp_functionCount : Int32) (tp_entryCount : Int32) (tp_lengths : Nat → Int32) (tp_fields : Nat → Int32) (tk_comeTo : Nat → Int32) (out : Int32) (hf : f_X3_isCallComeTo x1 x2 tp_lengths tp_fields tk_comeTo = some out) : g_Mi l yX3_isCallComeTo cX3_isCallComeTo 3 (some .boolean) r_X3_isCallComeTo tA dC dI cI cZ cJ [.ref a_t, .int x1, .int x2] (w_X3_isCallComeTo cI cZ cJ a_t a_tp a_tp_lengths a_tp_fields a_tk a_tk_comeTo a_tp_parameterCounts a_tp_entries a_tk_any a_tk_numbers tp_functionCount tp_entryCount tp_lengths tp_fields tk_comeTo) (w_X3_isCallComeTo cI cZ cJ a_t a_tp a_tp_lengths a_tp_fields a_tk a_tk_comeTo a_tp_parameterCounts a_tp_entries a_tk_any a_tk_numbers tp_functionCount tp_entryCount tp_lengths tp_fields tk_comeTo) out := by
  unfold f_X3_isCallComeTo at hf
  refine ge_i (by decide) (Nat.le_of_ble_eq_true rfl) (fun p e s m below meth c A H locs ls hC hW hl => ?_)
  have hC : g_C p s m meth c _ cX3_isCallComeTo 3 (some .boolean) RX3 := hC
  have hx := hC.1
  have hb := hC.2.1
  have hown := hC.2.2.2.2.1
  have hts := hC.2.2.2.2.2.1
  have hl : lv_has ls 3 [(0, .ref a_t), (1, .int x1), (2, .int x2)] := hl
  refine lv_aload_n hx hb dX3_isCallComeTo_0 rfl (lv_at hl 0 rfl) ?_
  refine gs_get hC hW in_X3 0 0 rfl rfl (by decide) fl_X3_9 rfl dX3_isCallComeTo_1 ?_
  refine lv_iload_n hx hb dX3_isCallComeTo_4 rfl (lv_at hl 1 rfl) ?_
  refine lv_iload_n hx hb dX3_isCallComeTo_5 rfl (lv_at hl 2 rfl) ?_
  refine lv_iconst (v := 0) hx hb dX3_isCallComeTo_6 (by decide) ?_
  obtain ⟨o1, h1, hf⟩ := g_bnd hf
  refine gs_callVi (ws' := w_X3_isCallComeTo cI cZ cJ a_t a_tp a_tp_lengths a_tp_fields a_tk a_tk_comeTo a_tp_parameterCounts a_tp_entries a_tk_any a_tk_numbers tp_functionCount tp_entryCount tp_lengths tp_fields tk_comeTo) hC hW (k_X4_fieldOf l tA dC dI cI cZ cJ a_tp a_tp_fields a_tp_parameterCounts a_tp_lengths a_tp_entries x1 x2 0 tp_functionCount tp_entryCount tp_fields _ h1) yk_X4_fieldOf lk_X3_44 iv_X4_fieldOf ⟨rfl, rfl⟩ ⟨Nat.le_of_ble_eq_true rfl, Nat.le_of_ble_eq_true rfl⟩ hl.1 1 rfl rfl [1, 3] [0, 2, 4, 5] [0, 4, 1, 5, 2, 3] rfl rfl rfl rfl (by decide) rfl rfl rfl rfl (Nat.le_of_ble_eq_true rfl) dX3_isCallComeTo_7 ⟨Nat.zero_le _, Nat.zero_le _⟩ (fun H locs hW => ?_)
  refine lv_bipush (v := 10) hx hb dX3_isCallComeTo_10 (by decide) ?_
  refine lv_icmp_ne (tgt := 39) hx hb dX3_isCallComeTo_12 (by decide) (fun c2 => ?_) (fun c2 => ?_)
  · replace hf := (if_neg c2).symm.trans hf
    refine lv_iconst (v := 0) hx hb dX3_isCallComeTo_39 (by decide) ?_
    obtain rfl := Option.some.inj hf
    exact gs_rz hC hW rfl g_n0 dX3_isCallComeTo_40
  · replace hf := (if_pos c2).symm.trans hf
    refine lv_aload_n hx hb dX3_isCallComeTo_15 rfl (lv_at hl 0 rfl) ?_
    refine gs_get hC hW in_X3 0 1 rfl rfl (by decide) fl_X3_15 rfl dX3_isCallComeTo_16 ?_
    refine gs_get hC hW in_X1 4 0 rfl rfl (by decide) fl_X3_48 rfl dX3_isCallComeTo_19 ?_
    refine lv_aload_n hx hb dX3_isCallComeTo_22 rfl (lv_at hl 0 rfl) ?_
    refine gs_get hC hW in_X3 0 0 rfl rfl (by decide) fl_X3_9 rfl dX3_isCallComeTo_23 ?_
    refine lv_iload_n hx hb dX3_isCallComeTo_26 rfl (lv_at hl 1 rfl) ?_
    refine lv_iload_n hx hb dX3_isCallComeTo_27 rfl (lv_at hl 2 rfl) ?_
    obtain ⟨o3, h3, hf⟩ := g_bnd hf
    refine gs_callVi (ws' := w_X3_isCallComeTo cI cZ cJ a_t a_tp a_tp_lengths a_tp_fields a_tk a_tk_comeTo a_tp_parameterCounts a_tp_entries a_tk_any a_tk_numbers tp_functionCount tp_entryCount tp_lengths tp_fields tk_comeTo) hC hW (k_X4_placeOf l tA dC dI cI cZ cJ a_tp a_tp_lengths a_tp_parameterCounts a_tp_fields a_tp_entries x1 x2 tp_functionCount tp_entryCount tp_lengths _ h3) yk_X4_placeOf lk_X3_54 iv_X4_placeOf ⟨rfl, rfl⟩ ⟨Nat.le_of_ble_eq_true rfl, Nat.le_of_ble_eq_true rfl⟩ hl.1 1 rfl rfl [1, 2] [0, 3, 4, 5] [0, 4, 5, 1, 2, 3] rfl rfl rfl rfl (by decide) rfl rfl rfl rfl (Nat.le_of_ble_eq_true rfl) dX3_isCallComeTo_28 ⟨Nat.zero_le _, Nat.zero_le _⟩ (fun H locs hW => ?_)
    obtain ⟨v4, h4, hf⟩ := g_bnd hf
    refine gs_zald hC hW 5 h4 rfl dX3_isCallComeTo_31 ?_
    refine lv_if_eq (tgt := 39) hx hb dX3_isCallComeTo_32 (by decide) (fun c5 => ?_) (fun c5 => ?_)
    · replace hf := (if_pos c5).symm.trans hf
      refine lv_iconst (v := 0) hx hb dX3_isCallComeTo_39 (by decide) ?_
      obtain rfl := Option.some.inj hf
      exact gs_rz hC hW rfl g_n0 dX3_isCallComeTo_40
    · replace hf := (if_neg c5).symm.trans hf
      refine lv_iconst (v := 1) hx hb dX3_isCallComeTo_35 (by decide) ?_
      refine lv_goto (tgt := 40) hx hb dX3_isCallComeTo_36 (by decide) ?_
      obtain rfl := Option.some.inj hf
      exact gs_rz hC hW rfl g_n1 dX3_isCallComeTo_40

abbrev w_X3_isSpecial (cI cZ cJ : ClassId) (a_t : Nat) (a_tp : Nat) (a_tp_parameterCounts : Nat) (a_tp_lengths : Nat) (a_tp_fields : Nat) (a_tk : Nat) (a_tk_any : Nat) (a_tp_entries : Nat) (a_tk_comeTo : Nat) (a_tk_numbers : Nat) (tp_functionCount : Int32) (tp_entryCount : Int32) (tp_parameterCounts : Nat → Int32) (tp_lengths : Nat → Int32) (tp_fields : Nat → Int32) (tk_any : Nat → Int32) : va_W := [(a_t, .inr (3, [.ref a_tp, .ref a_tk])), (a_tp, .inr (4, [.int tp_functionCount, .int tp_entryCount, .ref a_tp_parameterCounts, .ref a_tp_lengths, .ref a_tp_fields, .ref a_tp_entries])), (a_tp_parameterCounts, .inl (cI, 12, .inl tp_parameterCounts)), (a_tp_lengths, .inl (cI, 12, .inl tp_lengths)), (a_tp_fields, .inl (cI, 1152, .inl tp_fields)), (a_tk, .inr (1, [.ref a_tk_comeTo, .ref a_tk_any, .ref a_tk_numbers])), (a_tk_any, .inl (cZ, 1224, .inl tk_any))]
abbrev r_X3_isSpecial : Room := { frames := 2, cells := 0, slots := 0, locals := 44 }
def f_X3_isSpecial_37 (N : Nat) (x1 : Int32) (x2 : Int32) (tp_parameterCounts : Nat → Int32) (tp_lengths : Nat → Int32) (tp_fields : Nat → Int32) (tk_any : Nat → Int32) : Nat → Int32 → Int32 → Int32 → Int32 → Option (Int32)
  | 0, _, _, _, _ => none
  | n + 1, x3, x4, x5, x6 => (g_rd 12 tp_parameterCounts x4).bind (fun v1 => if v1 ≤ x6 then some 0 else (f_X1_hasNumber x5 x6 tk_any).bind (fun o3 => if o3 = 0 then (f_X4_fieldOf x1 x2 (3 + x6) tp_fields).bind (fun o5 => (f_X1_hasNumber x3 o5 tk_any).bind (fun o6 => if o6 = 0 then f_X3_isSpecial_37 N x1 x2 tp_parameterCounts tp_lengths tp_fields tk_any n x3 x4 x5 (x6 + 1) else some 1)) else f_X3_isSpecial_37 N x1 x2 tp_parameterCounts tp_lengths tp_fields tk_any n x3 x4 x5 (x6 + 1)))
set_option maxHeartbeats 4000000 in
set_option maxRecDepth 100000 in
theorem b_X3_isSpecial_37 {p : Program} {l : Launch} {e : Env} {s : State} {m : MethodId} {args : Array Value} {below : List Frame} {meth : Method} {c : Code} {tA : Nat} {dC : Nat → ClassId} {dI : Nat → Nat → Nat} {cI cZ cJ : ClassId} {A : Nat → Prop} {a_t : Nat} {a_tp : Nat} {a_tp_parameterCounts : Nat} {a_tp_lengths : Nat} {a_tp_fields : Nat} {a_tk : Nat} {a_tk_any : Nat} {a_tp_entries : Nat} {a_tk_comeTo : Nat} {a_tk_numbers : Nat} {x1 : Int32} {x2 : Int32} {tp_parameterCounts : Nat → Int32} {tp_lengths : Nat → Int32} {tp_fields : Nat → Int32} {tk_any : Nat → Int32} {tp_functionCount : Int32} {tp_entryCount : Int32} {N : Nat} (hC : g_C p s m meth c args cX3_isSpecial 7 (some .boolean) RX3) :
    ∀ (n : Nat) (x3 : Int32) (x4 : Int32) (x5 : Int32) (x6 : Int32) (out : Int32), f_X3_isSpecial_37 N x1 x2 tp_parameterCounts tp_lengths tp_fields tk_any n x3 x4 x5 x6 = some out → ∀ (H : Heap) (locs : List Loc) (ls : Array Slot), g_W tA dC dI cI cZ cJ A s H locs (w_X3_isSpecial cI cZ cJ a_t a_tp a_tp_parameterCounts a_tp_lengths a_tp_fields a_tk a_tk_any a_tp_entries a_tk_comeTo a_tk_numbers tp_functionCount tp_entryCount tp_parameterCounts tp_lengths tp_fields tk_any) → lv_has ls 7 [(0, .ref a_t), (1, .int x1), (2, .int x2), (3, .int x3), (4, .int x4), (5, .int x5), (6, .int x6)] → W p l e r_X3_isSpecial s m args below meth c H locs 0 0 (MQ below (g_Qi dC dI cI cZ cJ A (w_X3_isSpecial cI cZ cJ a_t a_tp a_tp_parameterCounts a_tp_lengths a_tp_fields a_tk a_tk_any a_tp_entries a_tk_comeTo a_tk_numbers tp_functionCount tp_entryCount tp_parameterCounts tp_lengths tp_fields tk_any) out) args s 0 0 A) (F0 m 37 ls []) := by
  have hx := hC.1
  have hb := hC.2.1
  have hown := hC.2.2.2.2.1
  have hts := hC.2.2.2.2.2.1
  intro n
  induction n with
  | zero =>
    intro x3 x4 x5 x6 out hf
    exact g_no hf
  | succ n ih =>
    intro x3 x4 x5 x6 out hf H locs ls hW hl
    refine lv_iload hx hb dX3_isSpecial_37 (lv_at hl 6 rfl) ?_
    refine lv_aload_n hx hb dX3_isSpecial_39 rfl (lv_at hl 0 rfl) ?_
    refine gs_get hC hW in_X3 0 0 rfl rfl (by decide) fl_X3_9 rfl dX3_isSpecial_40 ?_
    refine gs_get hC hW in_X4 1 2 rfl rfl (by decide) fl_X3_58 rfl dX3_isSpecial_43 ?_
    refine lv_iload hx hb dX3_isSpecial_46 (lv_at hl 4 rfl) ?_
    obtain ⟨v1, h1, hf⟩ := g_bnd hf
    refine gs_iald hC hW 2 h1 rfl dX3_isSpecial_48 ?_
    refine lv_icmp_ge (tgt := 98) hx hb dX3_isSpecial_49 (by decide) (fun c2 => ?_) (fun c2 => ?_)
    · replace hf := (if_pos c2).symm.trans hf
      refine lv_iconst (v := 0) hx hb dX3_isSpecial_98 (by decide) ?_
      obtain rfl := Option.some.inj hf
      exact gs_rz hC hW rfl g_n0 dX3_isSpecial_99
    · replace hf := (if_neg c2).symm.trans hf
      refine lv_aload_n hx hb dX3_isSpecial_52 rfl (lv_at hl 0 rfl) ?_
      refine gs_get hC hW in_X3 0 1 rfl rfl (by decide) fl_X3_15 rfl dX3_isSpecial_53 ?_
      refine lv_iload hx hb dX3_isSpecial_56 (lv_at hl 5 rfl) ?_
      refine lv_iload hx hb dX3_isSpecial_58 (lv_at hl 6 rfl) ?_
      obtain ⟨o3, h3, hf⟩ := g_bnd hf
      refine gs_callVi (ws' := w_X3_isSpecial cI cZ cJ a_t a_tp a_tp_parameterCounts a_tp_lengths a_tp_fields a_tk a_tk_any a_tp_entries a_tk_comeTo a_tk_numbers tp_functionCount tp_entryCount tp_parameterCounts tp_lengths tp_fields tk_any) hC hW (k_X1_hasNumber l tA dC dI cI cZ cJ a_tk a_tk_any a_tk_comeTo a_tk_numbers x5 x6 tk_any _ h3) yk_X1_hasNumber lk_X3_61 iv_X1_hasNumber ⟨rfl, rfl⟩ ⟨Nat.le_of_ble_eq_true rfl, Nat.le_of_ble_eq_true rfl⟩ hl.1 5 rfl rfl [5, 6] [0, 1, 2, 3, 4] [0, 1, 2, 3, 4, 5, 6] rfl rfl rfl rfl (by decide) rfl rfl rfl rfl (Nat.le_of_ble_eq_true rfl) dX3_isSpecial_60 ⟨Nat.zero_le _, Nat.zero_le _⟩ (fun H locs hW => ?_)
      refine lv_if_ne (tgt := 92) hx hb dX3_isSpecial_63 (by decide) (fun c4 => ?_) (fun c4 => ?_)
      · replace hf := (if_neg c4).symm.trans hf
        refine lv_iinc (v := x6 + 1) (lv' := [(6, .int (x6 + 1)), (0, .ref a_t), (1, .int x1), (2, .int x2), (3, .int x3), (4, .int x4), (5, .int x5)]) hx hb dX3_isSpecial_92 hl (k := 6) rfl rfl (by decide) rfl (fun ls hl => ?_)
        refine lv_goto (tgt := 37) hx hb dX3_isSpecial_95 (by decide) ?_
        exact ih _ _ _ _ _ hf _ _ _ hW (lv_sub hl [1, 2, 3, 4, 5, 6, 0] rfl)
      · replace hf := (if_pos c4).symm.trans hf
        refine lv_aload_n hx hb dX3_isSpecial_66 rfl (lv_at hl 0 rfl) ?_
        refine gs_get hC hW in_X3 0 1 rfl rfl (by decide) fl_X3_15 rfl dX3_isSpecial_67 ?_
        refine lv_iload_n hx hb dX3_isSpecial_70 rfl (lv_at hl 3 rfl) ?_
        refine lv_aload_n hx hb dX3_isSpecial_71 rfl (lv_at hl 0 rfl) ?_
        refine gs_get hC hW in_X3 0 0 rfl rfl (by decide) fl_X3_9 rfl dX3_isSpecial_72 ?_
        refine lv_iload_n hx hb dX3_isSpecial_75 rfl (lv_at hl 1 rfl) ?_
        refine lv_iload_n hx hb dX3_isSpecial_76 rfl (lv_at hl 2 rfl) ?_
        refine lv_iconst (v := 3) hx hb dX3_isSpecial_77 (by decide) ?_
        refine lv_iload hx hb dX3_isSpecial_78 (lv_at hl 6 rfl) ?_
        refine lv_iadd hx hb dX3_isSpecial_80 ?_
        obtain ⟨o5, h5, hf⟩ := g_bnd hf
        refine gs_callVi (ws' := w_X3_isSpecial cI cZ cJ a_t a_tp a_tp_parameterCounts a_tp_lengths a_tp_fields a_tk a_tk_any a_tp_entries a_tk_comeTo a_tk_numbers tp_functionCount tp_entryCount tp_parameterCounts tp_lengths tp_fields tk_any) hC hW (k_X4_fieldOf l tA dC dI cI cZ cJ a_tp a_tp_fields a_tp_parameterCounts a_tp_lengths a_tp_entries x1 x2 (3 + x6) tp_functionCount tp_entryCount tp_fields _ h5) yk_X4_fieldOf lk_X3_44 iv_X4_fieldOf ⟨rfl, rfl⟩ ⟨Nat.le_of_ble_eq_true rfl, Nat.le_of_ble_eq_true rfl⟩ hl.1 1 rfl rfl [1, 4] [0, 2, 3, 5, 6] [0, 5, 1, 2, 6, 3, 4] rfl rfl rfl rfl (by decide) rfl rfl rfl rfl (Nat.le_of_ble_eq_true rfl) dX3_isSpecial_81 ⟨Nat.zero_le _, Nat.zero_le _⟩ (fun H locs hW => ?_)
        obtain ⟨o6, h6, hf⟩ := g_bnd hf
        refine gs_callVi (ws' := w_X3_isSpecial cI cZ cJ a_t a_tp a_tp_parameterCounts a_tp_lengths a_tp_fields a_tk a_tk_any a_tp_entries a_tk_comeTo a_tk_numbers tp_functionCount tp_entryCount tp_parameterCounts tp_lengths tp_fields tk_any) hC hW (k_X1_hasNumber l tA dC dI cI cZ cJ a_tk a_tk_any a_tk_comeTo a_tk_numbers x3 o5 tk_any _ h6) yk_X1_hasNumber lk_X3_61 iv_X1_hasNumber ⟨rfl, rfl⟩ ⟨Nat.le_of_ble_eq_true rfl, Nat.le_of_ble_eq_true rfl⟩ hl.1 5 rfl rfl [5, 6] [0, 1, 2, 3, 4] [0, 1, 2, 3, 4, 5, 6] rfl rfl rfl rfl (by decide) rfl rfl rfl rfl (Nat.le_of_ble_eq_true rfl) dX3_isSpecial_84 ⟨Nat.zero_le _, Nat.zero_le _⟩ (fun H locs hW => ?_)
        refine lv_if_eq (tgt := 92) hx hb dX3_isSpecial_87 (by decide) (fun c7 => ?_) (fun c7 => ?_)
        · replace hf := (if_pos c7).symm.trans hf
          refine lv_iinc (v := x6 + 1) (lv' := [(6, .int (x6 + 1)), (0, .ref a_t), (1, .int x1), (2, .int x2), (3, .int x3), (4, .int x4), (5, .int x5)]) hx hb dX3_isSpecial_92 hl (k := 6) rfl rfl (by decide) rfl (fun ls hl => ?_)
          refine lv_goto (tgt := 37) hx hb dX3_isSpecial_95 (by decide) ?_
          exact ih _ _ _ _ _ hf _ _ _ hW (lv_sub hl [1, 2, 3, 4, 5, 6, 0] rfl)
        · replace hf := (if_neg c7).symm.trans hf
          refine lv_iconst (v := 1) hx hb dX3_isSpecial_90 (by decide) ?_
          obtain rfl := Option.some.inj hf
          exact gs_rz hC hW rfl g_n1 dX3_isSpecial_91
def f_X3_isSpecial (N : Nat) (x1 : Int32) (x2 : Int32) (tp_parameterCounts : Nat → Int32) (tp_lengths : Nat → Int32) (tp_fields : Nat → Int32) (tk_any : Nat → Int32) : Option (Int32) := (f_X4_placeOf x1 x2 tp_lengths).bind (fun o8 => (f_X4_fieldOf x1 x2 2 tp_fields).bind (fun o9 => (f_X4_placeOf o9 0 tp_lengths).bind (fun o10 => f_X3_isSpecial_37 N x1 x2 tp_parameterCounts tp_lengths tp_fields tk_any N o8 o9 o10 0)))
set_option maxHeartbeats 4000000 in
set_option maxRecDepth 100000 in
theorem k_X3_isSpecial (l : Launch) (tA : Nat) (dC : Nat → ClassId) (dI : Nat → Nat → Nat) (cI cZ cJ : ClassId) (a_t : Nat) (a_tp : Nat) (a_tp_parameterCounts : Nat) (a_tp_lengths : Nat) (a_tp_fields : Nat) (a_tk : Nat) (a_tk_any : Nat) (a_tp_entries : Nat) (a_tk_comeTo : Nat) (a_tk_numbers : Nat) (N : Nat) (x1 : Int32) (x2 : Int32) (tp_functionCount : Int32) (tp_entryCount : Int32) (tp_parameterCounts : Nat → Int32) (tp_lengths : Nat → Int32) (tp_fields : Nat → Int32) (tk_any : Nat → Int32) (out : Int32) (hf : f_X3_isSpecial N x1 x2 tp_parameterCounts tp_lengths tp_fields tk_any = some out) : g_Mi l yX3_isSpecial cX3_isSpecial 7 (some .boolean) r_X3_isSpecial tA dC dI cI cZ cJ [.ref a_t, .int x1, .int x2] (w_X3_isSpecial cI cZ cJ a_t a_tp a_tp_parameterCounts a_tp_lengths a_tp_fields a_tk a_tk_any a_tp_entries a_tk_comeTo a_tk_numbers tp_functionCount tp_entryCount tp_parameterCounts tp_lengths tp_fields tk_any) (w_X3_isSpecial cI cZ cJ a_t a_tp a_tp_parameterCounts a_tp_lengths a_tp_fields a_tk a_tk_any a_tp_entries a_tk_comeTo a_tk_numbers tp_functionCount tp_entryCount tp_parameterCounts tp_lengths tp_fields tk_any) out := by
  unfold f_X3_isSpecial at hf
  refine ge_i (by decide) (Nat.le_of_ble_eq_true rfl) (fun p e s m below meth c A H locs ls hC hW hl => ?_)
  have hC : g_C p s m meth c _ cX3_isSpecial 7 (some .boolean) RX3 := hC
  have hx := hC.1
  have hb := hC.2.1
  have hown := hC.2.2.2.2.1
  have hts := hC.2.2.2.2.2.1
  have hl : lv_has ls 7 [(0, .ref a_t), (1, .int x1), (2, .int x2)] := hl
  refine lv_aload_n hx hb dX3_isSpecial_0 rfl (lv_at hl 0 rfl) ?_
  refine gs_get hC hW in_X3 0 0 rfl rfl (by decide) fl_X3_9 rfl dX3_isSpecial_1 ?_
  refine lv_iload_n hx hb dX3_isSpecial_4 rfl (lv_at hl 1 rfl) ?_
  refine lv_iload_n hx hb dX3_isSpecial_5 rfl (lv_at hl 2 rfl) ?_
  obtain ⟨o8, h8, hf⟩ := g_bnd hf
  refine gs_callVi (ws' := w_X3_isSpecial cI cZ cJ a_t a_tp a_tp_parameterCounts a_tp_lengths a_tp_fields a_tk a_tk_any a_tp_entries a_tk_comeTo a_tk_numbers tp_functionCount tp_entryCount tp_parameterCounts tp_lengths tp_fields tk_any) hC hW (k_X4_placeOf l tA dC dI cI cZ cJ a_tp a_tp_lengths a_tp_parameterCounts a_tp_fields a_tp_entries x1 x2 tp_functionCount tp_entryCount tp_lengths _ h8) yk_X4_placeOf lk_X3_54 iv_X4_placeOf ⟨rfl, rfl⟩ ⟨Nat.le_of_ble_eq_true rfl, Nat.le_of_ble_eq_true rfl⟩ hl.1 1 rfl rfl [1, 3] [0, 2, 4, 5, 6] [0, 5, 1, 6, 2, 3, 4] rfl rfl rfl rfl (by decide) rfl rfl rfl rfl (Nat.le_of_ble_eq_true rfl) dX3_isSpecial_6 ⟨Nat.zero_le _, Nat.zero_le _⟩ (fun H locs hW => ?_)
  refine lv_istore_n (lv' := [(3, .int o8), (0, .ref a_t), (1, .int x1), (2, .int x2)]) hx hb dX3_isSpecial_9 rfl hl (by decide) rfl (fun ls hl => ?_)
  refine lv_aload_n hx hb dX3_isSpecial_10 rfl (lv_at hl 1 rfl) ?_
  refine gs_get hC hW in_X3 0 0 rfl rfl (by decide) fl_X3_9 rfl dX3_isSpecial_11 ?_
  refine lv_iload_n hx hb dX3_isSpecial_14 rfl (lv_at hl 2 rfl) ?_
  refine lv_iload_n hx hb dX3_isSpecial_15 rfl (lv_at hl 3 rfl) ?_
  refine lv_iconst (v := 2) hx hb dX3_isSpecial_16 (by decide) ?_
  obtain ⟨o9, h9, hf⟩ := g_bnd hf
  refine gs_callVi (ws' := w_X3_isSpecial cI cZ cJ a_t a_tp a_tp_parameterCounts a_tp_lengths a_tp_fields a_tk a_tk_any a_tp_entries a_tk_comeTo a_tk_numbers tp_functionCount tp_entryCount tp_parameterCounts tp_lengths tp_fields tk_any) hC hW (k_X4_fieldOf l tA dC dI cI cZ cJ a_tp a_tp_fields a_tp_parameterCounts a_tp_lengths a_tp_entries x1 x2 2 tp_functionCount tp_entryCount tp_fields _ h9) yk_X4_fieldOf lk_X3_44 iv_X4_fieldOf ⟨rfl, rfl⟩ ⟨Nat.le_of_ble_eq_true rfl, Nat.le_of_ble_eq_true rfl⟩ hl.1 1 rfl rfl [1, 4] [0, 2, 3, 5, 6] [0, 5, 1, 2, 6, 3, 4] rfl rfl rfl rfl (by decide) rfl rfl rfl rfl (Nat.le_of_ble_eq_true rfl) dX3_isSpecial_17 ⟨Nat.zero_le _, Nat.zero_le _⟩ (fun H locs hW => ?_)
  refine lv_istore (lv' := [(4, .int o9), (3, .int o8), (0, .ref a_t), (1, .int x1), (2, .int x2)]) hx hb dX3_isSpecial_20 hl (by decide) rfl (fun ls hl => ?_)
  refine lv_aload_n hx hb dX3_isSpecial_22 rfl (lv_at hl 2 rfl) ?_
  refine gs_get hC hW in_X3 0 0 rfl rfl (by decide) fl_X3_9 rfl dX3_isSpecial_23 ?_
  refine lv_iload hx hb dX3_isSpecial_26 (lv_at hl 0 rfl) ?_
  refine lv_iconst (v := 0) hx hb dX3_isSpecial_28 (by decide) ?_
  obtain ⟨o10, h10, hf⟩ := g_bnd hf
  refine gs_callVi (ws' := w_X3_isSpecial cI cZ cJ a_t a_tp a_tp_parameterCounts a_tp_lengths a_tp_fields a_tk a_tk_any a_tp_entries a_tk_comeTo a_tk_numbers tp_functionCount tp_entryCount tp_parameterCounts tp_lengths tp_fields tk_any) hC hW (k_X4_placeOf l tA dC dI cI cZ cJ a_tp a_tp_lengths a_tp_parameterCounts a_tp_fields a_tp_entries o9 0 tp_functionCount tp_entryCount tp_lengths _ h10) yk_X4_placeOf lk_X3_54 iv_X4_placeOf ⟨rfl, rfl⟩ ⟨Nat.le_of_ble_eq_true rfl, Nat.le_of_ble_eq_true rfl⟩ hl.1 1 rfl rfl [1, 3] [0, 2, 4, 5, 6] [0, 5, 1, 6, 2, 3, 4] rfl rfl rfl rfl (by decide) rfl rfl rfl rfl (Nat.le_of_ble_eq_true rfl) dX3_isSpecial_29 ⟨Nat.zero_le _, Nat.zero_le _⟩ (fun H locs hW => ?_)
  refine lv_istore (lv' := [(5, .int o10), (4, .int o9), (3, .int o8), (0, .ref a_t), (1, .int x1), (2, .int x2)]) hx hb dX3_isSpecial_32 hl (by decide) rfl (fun ls hl => ?_)
  refine lv_iconst (v := 0) hx hb dX3_isSpecial_34 (by decide) ?_
  refine lv_istore (lv' := [(6, .int 0), (5, .int o10), (4, .int o9), (3, .int o8), (0, .ref a_t), (1, .int x1), (2, .int x2)]) hx hb dX3_isSpecial_35 hl (by decide) rfl (fun ls hl => ?_)
  exact b_X3_isSpecial_37 hC N _ _ _ _ _ hf _ _ _ hW (lv_sub hl [4, 5, 6, 3, 2, 1, 0] rfl)

abbrev w_X3_firstSpecialCall (cI cZ cJ : ClassId) (a_t : Nat) (a_tp : Nat) (a_tp_parameterCounts : Nat) (a_tp_lengths : Nat) (a_tp_fields : Nat) (a_tk : Nat) (a_tk_comeTo : Nat) (a_tk_any : Nat) (a_tp_entries : Nat) (a_tk_numbers : Nat) (tp_functionCount : Int32) (tp_entryCount : Int32) (tp_parameterCounts : Nat → Int32) (tp_lengths : Nat → Int32) (tp_fields : Nat → Int32) (tk_comeTo : Nat → Int32) (tk_any : Nat → Int32) : va_W := [(a_t, .inr (3, [.ref a_tp, .ref a_tk])), (a_tp, .inr (4, [.int tp_functionCount, .int tp_entryCount, .ref a_tp_parameterCounts, .ref a_tp_lengths, .ref a_tp_fields, .ref a_tp_entries])), (a_tp_parameterCounts, .inl (cI, 12, .inl tp_parameterCounts)), (a_tp_lengths, .inl (cI, 12, .inl tp_lengths)), (a_tp_fields, .inl (cI, 1152, .inl tp_fields)), (a_tk, .inr (1, [.ref a_tk_comeTo, .ref a_tk_any, .ref a_tk_numbers])), (a_tk_comeTo, .inl (cZ, 204, .inl tk_comeTo)), (a_tk_any, .inl (cZ, 1224, .inl tk_any))]
abbrev r_X3_firstSpecialCall : Room := { frames := 3, cells := 0, slots := 0, locals := 70 }
def f_X3_firstSpecialCall_15 (N : Nat) (k2 : Int32 → Option (Int32)) (tp_functionCount : Int32) (tp_parameterCounts : Nat → Int32) (tp_lengths : Nat → Int32) (tp_fields : Nat → Int32) (tk_comeTo : Nat → Int32) (tk_any : Nat → Int32) : Nat → Int32 → Int32 → Option (Int32)
  | 0, _, _ => none
  | n + 1, x1, x2 => (g_rd 12 tp_lengths x1).bind (fun v1 => if v1 ≤ x2 then k2 (x1 + 1) else (f_X3_isCallComeTo x1 x2 tp_lengths tp_fields tk_comeTo).bind (fun o3 => if o3 = 0 then f_X3_firstSpecialCall_15 N k2 tp_functionCount tp_parameterCounts tp_lengths tp_fields tk_comeTo tk_any n x1 (x2 + 1) else (f_X3_isSpecial N x1 x2 tp_parameterCounts tp_lengths tp_fields tk_any).bind (fun o5 => if o5 = 0 then f_X3_firstSpecialCall_15 N k2 tp_functionCount tp_parameterCounts tp_lengths tp_fields tk_comeTo tk_any n x1 (x2 + 1) else some ((x1 * 16) + x2))))
set_option maxHeartbeats 4000000 in
set_option maxRecDepth 100000 in
theorem b_X3_firstSpecialCall_15 {p : Program} {l : Launch} {e : Env} {s : State} {m : MethodId} {args : Array Value} {below : List Frame} {meth : Method} {c : Code} {tA : Nat} {dC : Nat → ClassId} {dI : Nat → Nat → Nat} {cI cZ cJ : ClassId} {A : Nat → Prop} {a_t : Nat} {a_tp : Nat} {a_tp_parameterCounts : Nat} {a_tp_lengths : Nat} {a_tp_fields : Nat} {a_tk : Nat} {a_tk_comeTo : Nat} {a_tk_any : Nat} {a_tp_entries : Nat} {a_tk_numbers : Nat} {tp_functionCount : Int32} {tp_parameterCounts : Nat → Int32} {tp_lengths : Nat → Int32} {tp_fields : Nat → Int32} {tk_comeTo : Nat → Int32} {tk_any : Nat → Int32} {tp_entryCount : Int32} {N : Nat} {k2 : Int32 → Option (Int32)} (hC : g_C p s m meth c args cX3_firstSpecialCall 3 (some .int) RX3) (hk2 : ∀ (x1 : Int32) (out : Int32), k2 x1 = some out → ∀ (H : Heap) (locs : List Loc) (ls : Array Slot), g_W tA dC dI cI cZ cJ A s H locs (w_X3_firstSpecialCall cI cZ cJ a_t a_tp a_tp_parameterCounts a_tp_lengths a_tp_fields a_tk a_tk_comeTo a_tk_any a_tp_entries a_tk_numbers tp_functionCount tp_entryCount tp_parameterCounts tp_lengths tp_fields tk_comeTo tk_any) → lv_has ls 3 [(0, .ref a_t), (1, .int x1)] → W p l e r_X3_firstSpecialCall s m args below meth c H locs 0 0 (MQ below (g_Qi dC dI cI cZ cJ A (w_X3_firstSpecialCall cI cZ cJ a_t a_tp a_tp_parameterCounts a_tp_lengths a_tp_fields a_tk a_tk_comeTo a_tk_any a_tp_entries a_tk_numbers tp_functionCount tp_entryCount tp_parameterCounts tp_lengths tp_fields tk_comeTo tk_any) out) args s 0 0 A) (F0 m 2 ls [])) :
    ∀ (n : Nat) (x1 : Int32) (x2 : Int32) (out : Int32), f_X3_firstSpecialCall_15 N k2 tp_functionCount tp_parameterCounts tp_lengths tp_fields tk_comeTo tk_any n x1 x2 = some out → ∀ (H : Heap) (locs : List Loc) (ls : Array Slot), g_W tA dC dI cI cZ cJ A s H locs (w_X3_firstSpecialCall cI cZ cJ a_t a_tp a_tp_parameterCounts a_tp_lengths a_tp_fields a_tk a_tk_comeTo a_tk_any a_tp_entries a_tk_numbers tp_functionCount tp_entryCount tp_parameterCounts tp_lengths tp_fields tk_comeTo tk_any) → lv_has ls 3 [(0, .ref a_t), (1, .int x1), (2, .int x2)] → W p l e r_X3_firstSpecialCall s m args below meth c H locs 0 0 (MQ below (g_Qi dC dI cI cZ cJ A (w_X3_firstSpecialCall cI cZ cJ a_t a_tp a_tp_parameterCounts a_tp_lengths a_tp_fields a_tk a_tk_comeTo a_tk_any a_tp_entries a_tk_numbers tp_functionCount tp_entryCount tp_parameterCounts tp_lengths tp_fields tk_comeTo tk_any) out) args s 0 0 A) (F0 m 15 ls []) := by
  have hx := hC.1
  have hb := hC.2.1
  have hown := hC.2.2.2.2.1
  have hts := hC.2.2.2.2.2.1
  intro n
  induction n with
  | zero =>
    intro x1 x2 out hf
    exact g_no hf
  | succ n ih =>
    intro x1 x2 out hf H locs ls hW hl
    refine lv_iload_n hx hb dX3_firstSpecialCall_15 rfl (lv_at hl 2 rfl) ?_
    refine lv_aload_n hx hb dX3_firstSpecialCall_16 rfl (lv_at hl 0 rfl) ?_
    refine gs_get hC hW in_X3 0 0 rfl rfl (by decide) fl_X3_9 rfl dX3_firstSpecialCall_17 ?_
    refine gs_get hC hW in_X4 1 3 rfl rfl (by decide) fl_X3_33 rfl dX3_firstSpecialCall_20 ?_
    refine lv_iload_n hx hb dX3_firstSpecialCall_23 rfl (lv_at hl 1 rfl) ?_
    obtain ⟨v1, h1, hf⟩ := g_bnd hf
    refine gs_iald hC hW 3 h1 rfl dX3_firstSpecialCall_24 ?_
    refine lv_icmp_ge (tgt := 59) hx hb dX3_firstSpecialCall_25 (by decide) (fun c2 => ?_) (fun c2 => ?_)
    · replace hf := (if_pos c2).symm.trans hf
      refine lv_iinc (v := x1 + 1) (lv' := [(1, .int (x1 + 1)), (0, .ref a_t), (2, .int x2)]) hx hb dX3_firstSpecialCall_59 hl (k := 1) rfl rfl (by decide) rfl (fun ls hl => ?_)
      refine lv_goto (tgt := 2) hx hb dX3_firstSpecialCall_62 (by decide) ?_
      exact hk2 _ _ hf _ _ _ hW (lv_sub hl [1, 0] rfl)
    · replace hf := (if_neg c2).symm.trans hf
      refine lv_aload_n hx hb dX3_firstSpecialCall_28 rfl (lv_at hl 0 rfl) ?_
      refine lv_iload_n hx hb dX3_firstSpecialCall_29 rfl (lv_at hl 1 rfl) ?_
      refine lv_iload_n hx hb dX3_firstSpecialCall_30 rfl (lv_at hl 2 rfl) ?_
      obtain ⟨o3, h3, hf⟩ := g_bnd hf
      refine gs_callVi (ws' := w_X3_firstSpecialCall cI cZ cJ a_t a_tp a_tp_parameterCounts a_tp_lengths a_tp_fields a_tk a_tk_comeTo a_tk_any a_tp_entries a_tk_numbers tp_functionCount tp_entryCount tp_parameterCounts tp_lengths tp_fields tk_comeTo tk_any) hC hW (k_X3_isCallComeTo l tA dC dI cI cZ cJ a_t a_tp a_tp_lengths a_tp_fields a_tk a_tk_comeTo a_tp_parameterCounts a_tp_entries a_tk_any a_tk_numbers x1 x2 tp_functionCount tp_entryCount tp_lengths tp_fields tk_comeTo _ h3) yk_X3_isCallComeTo lk_X3_37 iv_X3_isCallComeTo ⟨rfl, rfl⟩ ⟨Nat.le_of_ble_eq_true rfl, Nat.le_of_ble_eq_true rfl⟩ hl.1 0 rfl rfl [0, 1, 3, 4, 5, 6] [2, 7] [2, 3, 0, 4, 5, 6, 7, 1] rfl rfl rfl rfl (by decide) rfl rfl rfl rfl (Nat.le_of_ble_eq_true rfl) dX3_firstSpecialCall_31 ⟨Nat.zero_le _, Nat.zero_le _⟩ (fun H locs hW => ?_)
      refine lv_if_eq (tgt := 53) hx hb dX3_firstSpecialCall_34 (by decide) (fun c4 => ?_) (fun c4 => ?_)
      · replace hf := (if_pos c4).symm.trans hf
        refine lv_iinc (v := x2 + 1) (lv' := [(2, .int (x2 + 1)), (0, .ref a_t), (1, .int x1)]) hx hb dX3_firstSpecialCall_53 hl (k := 2) rfl rfl (by decide) rfl (fun ls hl => ?_)
        refine lv_goto (tgt := 15) hx hb dX3_firstSpecialCall_56 (by decide) ?_
        exact ih _ _ _ hf _ _ _ hW (lv_sub hl [1, 2, 0] rfl)
      · replace hf := (if_neg c4).symm.trans hf
        refine lv_aload_n hx hb dX3_firstSpecialCall_37 rfl (lv_at hl 0 rfl) ?_
        refine lv_iload_n hx hb dX3_firstSpecialCall_38 rfl (lv_at hl 1 rfl) ?_
        refine lv_iload_n hx hb dX3_firstSpecialCall_39 rfl (lv_at hl 2 rfl) ?_
        obtain ⟨o5, h5, hf⟩ := g_bnd hf
        refine gs_callVi (ws' := w_X3_firstSpecialCall cI cZ cJ a_t a_tp a_tp_parameterCounts a_tp_lengths a_tp_fields a_tk a_tk_comeTo a_tk_any a_tp_entries a_tk_numbers tp_functionCount tp_entryCount tp_parameterCounts tp_lengths tp_fields tk_comeTo tk_any) hC hW (k_X3_isSpecial l tA dC dI cI cZ cJ a_t a_tp a_tp_parameterCounts a_tp_lengths a_tp_fields a_tk a_tk_any a_tp_entries a_tk_comeTo a_tk_numbers N x1 x2 tp_functionCount tp_entryCount tp_parameterCounts tp_lengths tp_fields tk_any _ h5) yk_X3_isSpecial lk_X3_41 iv_X3_isSpecial ⟨rfl, rfl⟩ ⟨Nat.le_of_ble_eq_true rfl, Nat.le_of_ble_eq_true rfl⟩ hl.1 0 rfl rfl [0, 1, 2, 3, 4, 5, 7] [6] [1, 2, 3, 4, 5, 6, 0, 7] rfl rfl rfl rfl (by decide) rfl rfl rfl rfl (Nat.le_of_ble_eq_true rfl) dX3_firstSpecialCall_40 ⟨Nat.zero_le _, Nat.zero_le _⟩ (fun H locs hW => ?_)
        refine lv_if_eq (tgt := 53) hx hb dX3_firstSpecialCall_43 (by decide) (fun c6 => ?_) (fun c6 => ?_)
        · replace hf := (if_pos c6).symm.trans hf
          refine lv_iinc (v := x2 + 1) (lv' := [(2, .int (x2 + 1)), (0, .ref a_t), (1, .int x1)]) hx hb dX3_firstSpecialCall_53 hl (k := 2) rfl rfl (by decide) rfl (fun ls hl => ?_)
          refine lv_goto (tgt := 15) hx hb dX3_firstSpecialCall_56 (by decide) ?_
          exact ih _ _ _ hf _ _ _ hW (lv_sub hl [1, 2, 0] rfl)
        · replace hf := (if_neg c6).symm.trans hf
          refine lv_iload_n hx hb dX3_firstSpecialCall_46 rfl (lv_at hl 1 rfl) ?_
          refine lv_bipush (v := 16) hx hb dX3_firstSpecialCall_47 (by decide) ?_
          refine lv_imul hx hb dX3_firstSpecialCall_49 ?_
          refine lv_iload_n hx hb dX3_firstSpecialCall_50 rfl (lv_at hl 2 rfl) ?_
          refine lv_iadd hx hb dX3_firstSpecialCall_51 ?_
          obtain rfl := Option.some.inj hf
          exact gs_ri hC hW rfl dX3_firstSpecialCall_52
def f_X3_firstSpecialCall_2 (N : Nat) (tp_functionCount : Int32) (tp_parameterCounts : Nat → Int32) (tp_lengths : Nat → Int32) (tp_fields : Nat → Int32) (tk_comeTo : Nat → Int32) (tk_any : Nat → Int32) : Nat → Int32 → Option (Int32)
  | 0, _ => none
  | n + 1, x1 => if tp_functionCount ≤ x1 then some (-1) else f_X3_firstSpecialCall_15 N (f_X3_firstSpecialCall_2 N tp_functionCount tp_parameterCounts tp_lengths tp_fields tk_comeTo tk_any n) tp_functionCount tp_parameterCounts tp_lengths tp_fields tk_comeTo tk_any N x1 0
set_option maxHeartbeats 4000000 in
set_option maxRecDepth 100000 in
theorem b_X3_firstSpecialCall_2 {p : Program} {l : Launch} {e : Env} {s : State} {m : MethodId} {args : Array Value} {below : List Frame} {meth : Method} {c : Code} {tA : Nat} {dC : Nat → ClassId} {dI : Nat → Nat → Nat} {cI cZ cJ : ClassId} {A : Nat → Prop} {a_t : Nat} {a_tp : Nat} {a_tp_parameterCounts : Nat} {a_tp_lengths : Nat} {a_tp_fields : Nat} {a_tk : Nat} {a_tk_comeTo : Nat} {a_tk_any : Nat} {a_tp_entries : Nat} {a_tk_numbers : Nat} {tp_functionCount : Int32} {tp_parameterCounts : Nat → Int32} {tp_lengths : Nat → Int32} {tp_fields : Nat → Int32} {tk_comeTo : Nat → Int32} {tk_any : Nat → Int32} {tp_entryCount : Int32} {N : Nat} (hC : g_C p s m meth c args cX3_firstSpecialCall 3 (some .int) RX3) :
    ∀ (n : Nat) (x1 : Int32) (out : Int32), f_X3_firstSpecialCall_2 N tp_functionCount tp_parameterCounts tp_lengths tp_fields tk_comeTo tk_any n x1 = some out → ∀ (H : Heap) (locs : List Loc) (ls : Array Slot), g_W tA dC dI cI cZ cJ A s H locs (w_X3_firstSpecialCall cI cZ cJ a_t a_tp a_tp_parameterCounts a_tp_lengths a_tp_fields a_tk a_tk_comeTo a_tk_any a_tp_entries a_tk_numbers tp_functionCount tp_entryCount tp_parameterCounts tp_lengths tp_fields tk_comeTo tk_any) → lv_has ls 3 [(0, .ref a_t), (1, .int x1)] → W p l e r_X3_firstSpecialCall s m args below meth c H locs 0 0 (MQ below (g_Qi dC dI cI cZ cJ A (w_X3_firstSpecialCall cI cZ cJ a_t a_tp a_tp_parameterCounts a_tp_lengths a_tp_fields a_tk a_tk_comeTo a_tk_any a_tp_entries a_tk_numbers tp_functionCount tp_entryCount tp_parameterCounts tp_lengths tp_fields tk_comeTo tk_any) out) args s 0 0 A) (F0 m 2 ls []) := by
  have hx := hC.1
  have hb := hC.2.1
  have hown := hC.2.2.2.2.1
  have hts := hC.2.2.2.2.2.1
  intro n
  induction n with
  | zero =>
    intro x1 out hf
    exact g_no hf
  | succ n ih =>
    intro x1 out hf H locs ls hW hl
    refine lv_iload_n hx hb dX3_firstSpecialCall_2 rfl (lv_at hl 1 rfl) ?_
    refine lv_aload_n hx hb dX3_firstSpecialCall_3 rfl (lv_at hl 0 rfl) ?_
    refine gs_get hC hW in_X3 0 0 rfl rfl (by decide) fl_X3_9 rfl dX3_firstSpecialCall_4 ?_
    refine gs_get hC hW in_X4 1 0 rfl rfl (by decide) fl_X3_27 rfl dX3_firstSpecialCall_7 ?_
    refine lv_icmp_ge (tgt := 65) hx hb dX3_firstSpecialCall_10 (by decide) (fun c7 => ?_) (fun c7 => ?_)
    · replace hf := (if_pos c7).symm.trans hf
      refine lv_iconst (v := (-1)) hx hb dX3_firstSpecialCall_65 (by decide) ?_
      obtain rfl := Option.some.inj hf
      exact gs_ri hC hW rfl dX3_firstSpecialCall_66
    · replace hf := (if_neg c7).symm.trans hf
      refine lv_iconst (v := 0) hx hb dX3_firstSpecialCall_13 (by decide) ?_
      refine lv_istore_n (lv' := [(2, .int 0), (0, .ref a_t), (1, .int x1)]) hx hb dX3_firstSpecialCall_14 rfl hl (by decide) rfl (fun ls hl => ?_)
      exact b_X3_firstSpecialCall_15 hC ih N _ _ _ hf _ _ _ hW (lv_sub hl [1, 2, 0] rfl)
def f_X3_firstSpecialCall (N : Nat) (tp_functionCount : Int32) (tp_parameterCounts : Nat → Int32) (tp_lengths : Nat → Int32) (tp_fields : Nat → Int32) (tk_comeTo : Nat → Int32) (tk_any : Nat → Int32) : Option (Int32) := f_X3_firstSpecialCall_2 N tp_functionCount tp_parameterCounts tp_lengths tp_fields tk_comeTo tk_any N 0
set_option maxHeartbeats 4000000 in
set_option maxRecDepth 100000 in
theorem k_X3_firstSpecialCall (l : Launch) (tA : Nat) (dC : Nat → ClassId) (dI : Nat → Nat → Nat) (cI cZ cJ : ClassId) (a_t : Nat) (a_tp : Nat) (a_tp_parameterCounts : Nat) (a_tp_lengths : Nat) (a_tp_fields : Nat) (a_tk : Nat) (a_tk_comeTo : Nat) (a_tk_any : Nat) (a_tp_entries : Nat) (a_tk_numbers : Nat) (N : Nat) (tp_functionCount : Int32) (tp_entryCount : Int32) (tp_parameterCounts : Nat → Int32) (tp_lengths : Nat → Int32) (tp_fields : Nat → Int32) (tk_comeTo : Nat → Int32) (tk_any : Nat → Int32) (out : Int32) (hf : f_X3_firstSpecialCall N tp_functionCount tp_parameterCounts tp_lengths tp_fields tk_comeTo tk_any = some out) : g_Mi l yX3_firstSpecialCall cX3_firstSpecialCall 3 (some .int) r_X3_firstSpecialCall tA dC dI cI cZ cJ [.ref a_t] (w_X3_firstSpecialCall cI cZ cJ a_t a_tp a_tp_parameterCounts a_tp_lengths a_tp_fields a_tk a_tk_comeTo a_tk_any a_tp_entries a_tk_numbers tp_functionCount tp_entryCount tp_parameterCounts tp_lengths tp_fields tk_comeTo tk_any) (w_X3_firstSpecialCall cI cZ cJ a_t a_tp a_tp_parameterCounts a_tp_lengths a_tp_fields a_tk a_tk_comeTo a_tk_any a_tp_entries a_tk_numbers tp_functionCount tp_entryCount tp_parameterCounts tp_lengths tp_fields tk_comeTo tk_any) out := by
  unfold f_X3_firstSpecialCall at hf
  refine ge_i (by decide) (Nat.le_of_ble_eq_true rfl) (fun p e s m below meth c A H locs ls hC hW hl => ?_)
  have hC : g_C p s m meth c _ cX3_firstSpecialCall 3 (some .int) RX3 := hC
  have hx := hC.1
  have hb := hC.2.1
  have hown := hC.2.2.2.2.1
  have hts := hC.2.2.2.2.2.1
  have hl : lv_has ls 3 [(0, .ref a_t)] := hl
  refine lv_iconst (v := 0) hx hb dX3_firstSpecialCall_0 (by decide) ?_
  refine lv_istore_n (lv' := [(1, .int 0), (0, .ref a_t)]) hx hb dX3_firstSpecialCall_1 rfl hl (by decide) rfl (fun ls hl => ?_)
  exact b_X3_firstSpecialCall_2 hC N _ _ hf _ _ _ hW (lv_sub hl [1, 0] rfl)

abbrev w_X3_sayTheSame (cI cZ cJ : ClassId) (a_t : Nat) (a_tp : Nat) (a_tp_parameterCounts : Nat) (a_tp_lengths : Nat) (a_tp_fields : Nat) (a_tk : Nat) (a_tk_any : Nat) (a_tk_numbers : Nat) (a_tp_entries : Nat) (a_tk_comeTo : Nat) (tp_functionCount : Int32) (tp_entryCount : Int32) (tp_parameterCounts : Nat → Int32) (tp_lengths : Nat → Int32) (tp_fields : Nat → Int32) (tk_any : Nat → Int32) (tk_numbers : Nat → Int32) : va_W := [(a_t, .inr (3, [.ref a_tp, .ref a_tk])), (a_tp, .inr (4, [.int tp_functionCount, .int tp_entryCount, .ref a_tp_parameterCounts, .ref a_tp_lengths, .ref a_tp_fields, .ref a_tp_entries])), (a_tp_parameterCounts, .inl (cI, 12, .inl tp_parameterCounts)), (a_tp_lengths, .inl (cI, 12, .inl tp_lengths)), (a_tp_fields, .inl (cI, 1152, .inl tp_fields)), (a_tk, .inr (1, [.ref a_tk_comeTo, .ref a_tk_any, .ref a_tk_numbers])), (a_tk_any, .inl (cZ, 1224, .inl tk_any)), (a_tk_numbers, .inl (cI, 1224, .inl tk_numbers))]
abbrev r_X3_sayTheSame : Room := { frames := 2, cells := 0, slots := 0, locals := 44 }
def f_X3_sayTheSame_39 (N : Nat) (x1 : Int32) (x2 : Int32) (x3 : Int32) (x4 : Int32) (tp_parameterCounts : Nat → Int32) (tp_lengths : Nat → Int32) (tp_fields : Nat → Int32) (tk_any : Nat → Int32) (tk_numbers : Nat → Int32) : Nat → Int32 → Int32 → Int32 → Int32 → Option (Int32)
  | 0, _, _, _, _ => none
  | n + 1, x5, x6, x7, x8 => (g_rd 12 tp_parameterCounts x5).bind (fun v1 => if v1 ≤ x8 then some 1 else (f_X4_fieldOf x1 x2 (3 + x8) tp_fields).bind (fun o3 => (f_X4_fieldOf x3 x4 (3 + x8) tp_fields).bind (fun o4 => (f_X1_hasNumber x6 o3 tk_any).bind (fun o5 => (f_X1_hasNumber x7 o4 tk_any).bind (fun o6 => if o5 = o6 then if o5 = 0 then f_X3_sayTheSame_39 N x1 x2 x3 x4 tp_parameterCounts tp_lengths tp_fields tk_any tk_numbers n x5 x6 x7 (x8 + 1) else (f_X1_numberOf x6 o3 tk_numbers).bind (fun o9 => (f_X1_numberOf x7 o4 tk_numbers).bind (fun o10 => if o9 = o10 then f_X3_sayTheSame_39 N x1 x2 x3 x4 tp_parameterCounts tp_lengths tp_fields tk_any tk_numbers n x5 x6 x7 (x8 + 1) else some 0)) else some 0)))))
set_option maxHeartbeats 4000000 in
set_option maxRecDepth 100000 in
theorem b_X3_sayTheSame_39 {p : Program} {l : Launch} {e : Env} {s : State} {m : MethodId} {args : Array Value} {below : List Frame} {meth : Method} {c : Code} {tA : Nat} {dC : Nat → ClassId} {dI : Nat → Nat → Nat} {cI cZ cJ : ClassId} {A : Nat → Prop} {a_t : Nat} {a_tp : Nat} {a_tp_parameterCounts : Nat} {a_tp_lengths : Nat} {a_tp_fields : Nat} {a_tk : Nat} {a_tk_any : Nat} {a_tk_numbers : Nat} {a_tp_entries : Nat} {a_tk_comeTo : Nat} {x1 : Int32} {x2 : Int32} {x3 : Int32} {x4 : Int32} {tp_parameterCounts : Nat → Int32} {tp_lengths : Nat → Int32} {tp_fields : Nat → Int32} {tk_any : Nat → Int32} {tk_numbers : Nat → Int32} {tp_functionCount : Int32} {tp_entryCount : Int32} {N : Nat} (hC : g_C p s m meth c args cX3_sayTheSame 12 (some .boolean) RX3) :
    ∀ (n : Nat) (x5 : Int32) (x6 : Int32) (x7 : Int32) (x8 : Int32) (out : Int32), f_X3_sayTheSame_39 N x1 x2 x3 x4 tp_parameterCounts tp_lengths tp_fields tk_any tk_numbers n x5 x6 x7 x8 = some out → ∀ (H : Heap) (locs : List Loc) (ls : Array Slot), g_W tA dC dI cI cZ cJ A s H locs (w_X3_sayTheSame cI cZ cJ a_t a_tp a_tp_parameterCounts a_tp_lengths a_tp_fields a_tk a_tk_any a_tk_numbers a_tp_entries a_tk_comeTo tp_functionCount tp_entryCount tp_parameterCounts tp_lengths tp_fields tk_any tk_numbers) → lv_has ls 12 [(0, .ref a_t), (1, .int x1), (2, .int x2), (3, .int x3), (4, .int x4), (5, .int x5), (6, .int x6), (7, .int x7), (8, .int x8)] → W p l e r_X3_sayTheSame s m args below meth c H locs 0 0 (MQ below (g_Qi dC dI cI cZ cJ A (w_X3_sayTheSame cI cZ cJ a_t a_tp a_tp_parameterCounts a_tp_lengths a_tp_fields a_tk a_tk_any a_tk_numbers a_tp_entries a_tk_comeTo tp_functionCount tp_entryCount tp_parameterCounts tp_lengths tp_fields tk_any tk_numbers) out) args s 0 0 A) (F0 m 39 ls []) := by
  have hx := hC.1
  have hb := hC.2.1
  have hown := hC.2.2.2.2.1
  have hts := hC.2.2.2.2.2.1
  intro n
  induction n with
  | zero =>
    intro x5 x6 x7 x8 out hf
    exact g_no hf
  | succ n ih =>
    intro x5 x6 x7 x8 out hf H locs ls hW hl
    refine lv_iload hx hb dX3_sayTheSame_39 (lv_at hl 8 rfl) ?_
    refine lv_aload_n hx hb dX3_sayTheSame_41 rfl (lv_at hl 0 rfl) ?_
    refine gs_get hC hW in_X3 0 0 rfl rfl (by decide) fl_X3_9 rfl dX3_sayTheSame_42 ?_
    refine gs_get hC hW in_X4 1 2 rfl rfl (by decide) fl_X3_58 rfl dX3_sayTheSame_45 ?_
    refine lv_iload hx hb dX3_sayTheSame_48 (lv_at hl 5 rfl) ?_
    obtain ⟨v1, h1, hf⟩ := g_bnd hf
    refine gs_iald hC hW 2 h1 rfl dX3_sayTheSame_50 ?_
    refine lv_icmp_ge (tgt := 154) hx hb dX3_sayTheSame_51 (by decide) (fun c2 => ?_) (fun c2 => ?_)
    · replace hf := (if_pos c2).symm.trans hf
      refine lv_iconst (v := 1) hx hb dX3_sayTheSame_154 (by decide) ?_
      obtain rfl := Option.some.inj hf
      exact gs_rz hC hW rfl g_n1 dX3_sayTheSame_155
    · replace hf := (if_neg c2).symm.trans hf
      refine lv_aload_n hx hb dX3_sayTheSame_54 rfl (lv_at hl 0 rfl) ?_
      refine gs_get hC hW in_X3 0 0 rfl rfl (by decide) fl_X3_9 rfl dX3_sayTheSame_55 ?_
      refine lv_iload_n hx hb dX3_sayTheSame_58 rfl (lv_at hl 1 rfl) ?_
      refine lv_iload_n hx hb dX3_sayTheSame_59 rfl (lv_at hl 2 rfl) ?_
      refine lv_iconst (v := 3) hx hb dX3_sayTheSame_60 (by decide) ?_
      refine lv_iload hx hb dX3_sayTheSame_61 (lv_at hl 8 rfl) ?_
      refine lv_iadd hx hb dX3_sayTheSame_63 ?_
      obtain ⟨o3, h3, hf⟩ := g_bnd hf
      refine gs_callVi (ws' := w_X3_sayTheSame cI cZ cJ a_t a_tp a_tp_parameterCounts a_tp_lengths a_tp_fields a_tk a_tk_any a_tk_numbers a_tp_entries a_tk_comeTo tp_functionCount tp_entryCount tp_parameterCounts tp_lengths tp_fields tk_any tk_numbers) hC hW (k_X4_fieldOf l tA dC dI cI cZ cJ a_tp a_tp_fields a_tp_parameterCounts a_tp_lengths a_tp_entries x1 x2 (3 + x8) tp_functionCount tp_entryCount tp_fields _ h3) yk_X4_fieldOf lk_X3_44 iv_X4_fieldOf ⟨rfl, rfl⟩ ⟨Nat.le_of_ble_eq_true rfl, Nat.le_of_ble_eq_true rfl⟩ hl.1 1 rfl rfl [1, 4] [0, 2, 3, 5, 6, 7] [0, 6, 1, 2, 7, 3, 4, 5] rfl rfl rfl rfl (by decide) rfl rfl rfl rfl (Nat.le_of_ble_eq_true rfl) dX3_sayTheSame_64 ⟨Nat.zero_le _, Nat.zero_le _⟩ (fun H locs hW => ?_)
      refine lv_istore (lv' := [(9, .int o3), (0, .ref a_t), (1, .int x1), (2, .int x2), (3, .int x3), (4, .int x4), (5, .int x5), (6, .int x6), (7, .int x7), (8, .int x8)]) hx hb dX3_sayTheSame_67 hl (by decide) rfl (fun ls hl => ?_)
      refine lv_aload_n hx hb dX3_sayTheSame_69 rfl (lv_at hl 1 rfl) ?_
      refine gs_get hC hW in_X3 0 0 rfl rfl (by decide) fl_X3_9 rfl dX3_sayTheSame_70 ?_
      refine lv_iload_n hx hb dX3_sayTheSame_73 rfl (lv_at hl 4 rfl) ?_
      refine lv_iload hx hb dX3_sayTheSame_74 (lv_at hl 5 rfl) ?_
      refine lv_iconst (v := 3) hx hb dX3_sayTheSame_76 (by decide) ?_
      refine lv_iload hx hb dX3_sayTheSame_77 (lv_at hl 9 rfl) ?_
      refine lv_iadd hx hb dX3_sayTheSame_79 ?_
      obtain ⟨o4, h4, hf⟩ := g_bnd hf
      refine gs_callVi (ws' := w_X3_sayTheSame cI cZ cJ a_t a_tp a_tp_parameterCounts a_tp_lengths a_tp_fields a_tk a_tk_any a_tk_numbers a_tp_entries a_tk_comeTo tp_functionCount tp_entryCount tp_parameterCounts tp_lengths tp_fields tk_any tk_numbers) hC hW (k_X4_fieldOf l tA dC dI cI cZ cJ a_tp a_tp_fields a_tp_parameterCounts a_tp_lengths a_tp_entries x3 x4 (3 + x8) tp_functionCount tp_entryCount tp_fields _ h4) yk_X4_fieldOf lk_X3_44 iv_X4_fieldOf ⟨rfl, rfl⟩ ⟨Nat.le_of_ble_eq_true rfl, Nat.le_of_ble_eq_true rfl⟩ hl.1 1 rfl rfl [1, 4] [0, 2, 3, 5, 6, 7] [0, 6, 1, 2, 7, 3, 4, 5] rfl rfl rfl rfl (by decide) rfl rfl rfl rfl (Nat.le_of_ble_eq_true rfl) dX3_sayTheSame_80 ⟨Nat.zero_le _, Nat.zero_le _⟩ (fun H locs hW => ?_)
      refine lv_istore (lv' := [(10, .int o4), (9, .int o3), (0, .ref a_t), (1, .int x1), (2, .int x2), (3, .int x3), (4, .int x4), (5, .int x5), (6, .int x6), (7, .int x7), (8, .int x8)]) hx hb dX3_sayTheSame_83 hl (by decide) rfl (fun ls hl => ?_)
      refine lv_aload_n hx hb dX3_sayTheSame_85 rfl (lv_at hl 2 rfl) ?_
      refine gs_get hC hW in_X3 0 1 rfl rfl (by decide) fl_X3_15 rfl dX3_sayTheSame_86 ?_
      refine lv_iload hx hb dX3_sayTheSame_89 (lv_at hl 8 rfl) ?_
      refine lv_iload hx hb dX3_sayTheSame_91 (lv_at hl 1 rfl) ?_
      obtain ⟨o5, h5, hf⟩ := g_bnd hf
      refine gs_callVi (ws' := w_X3_sayTheSame cI cZ cJ a_t a_tp a_tp_parameterCounts a_tp_lengths a_tp_fields a_tk a_tk_any a_tk_numbers a_tp_entries a_tk_comeTo tp_functionCount tp_entryCount tp_parameterCounts tp_lengths tp_fields tk_any tk_numbers) hC hW (k_X1_hasNumber l tA dC dI cI cZ cJ a_tk a_tk_any a_tk_comeTo a_tk_numbers x6 o3 tk_any _ h5) yk_X1_hasNumber lk_X3_61 iv_X1_hasNumber ⟨rfl, rfl⟩ ⟨Nat.le_of_ble_eq_true rfl, Nat.le_of_ble_eq_true rfl⟩ hl.1 5 rfl rfl [5, 6] [0, 1, 2, 3, 4, 7] [0, 1, 2, 3, 4, 6, 7, 5] rfl rfl rfl rfl (by decide) rfl rfl rfl rfl (Nat.le_of_ble_eq_true rfl) dX3_sayTheSame_93 ⟨Nat.zero_le _, Nat.zero_le _⟩ (fun H locs hW => ?_)
      refine lv_istore (lv' := [(11, .int o5), (10, .int o4), (9, .int o3), (0, .ref a_t), (1, .int x1), (2, .int x2), (3, .int x3), (4, .int x4), (5, .int x5), (6, .int x6), (7, .int x7), (8, .int x8)]) hx hb dX3_sayTheSame_96 hl (by decide) rfl (fun ls hl => ?_)
      refine lv_iload hx hb dX3_sayTheSame_98 (lv_at hl 0 rfl) ?_
      refine lv_aload_n hx hb dX3_sayTheSame_100 rfl (lv_at hl 3 rfl) ?_
      refine gs_get hC hW in_X3 0 1 rfl rfl (by decide) fl_X3_15 rfl dX3_sayTheSame_101 ?_
      refine lv_iload hx hb dX3_sayTheSame_104 (lv_at hl 10 rfl) ?_
      refine lv_iload hx hb dX3_sayTheSame_106 (lv_at hl 1 rfl) ?_
      obtain ⟨o6, h6, hf⟩ := g_bnd hf
      refine gs_callVi (ws' := w_X3_sayTheSame cI cZ cJ a_t a_tp a_tp_parameterCounts a_tp_lengths a_tp_fields a_tk a_tk_any a_tk_numbers a_tp_entries a_tk_comeTo tp_functionCount tp_entryCount tp_parameterCounts tp_lengths tp_fields tk_any tk_numbers) hC hW (k_X1_hasNumber l tA dC dI cI cZ cJ a_tk a_tk_any a_tk_comeTo a_tk_numbers x7 o4 tk_any _ h6) yk_X1_hasNumber lk_X3_61 iv_X1_hasNumber ⟨rfl, rfl⟩ ⟨Nat.le_of_ble_eq_true rfl, Nat.le_of_ble_eq_true rfl⟩ hl.1 5 rfl rfl [5, 6] [0, 1, 2, 3, 4, 7] [0, 1, 2, 3, 4, 6, 7, 5] rfl rfl rfl rfl (by decide) rfl rfl rfl rfl (Nat.le_of_ble_eq_true rfl) dX3_sayTheSame_108 ⟨Nat.zero_le _, Nat.zero_le _⟩ (fun H locs hW => ?_)
      refine lv_icmp_eq (tgt := 116) hx hb dX3_sayTheSame_111 (by decide) (fun c7 => ?_) (fun c7 => ?_)
      · replace hf := (if_pos c7).symm.trans hf
        refine lv_iload hx hb dX3_sayTheSame_116 (lv_at hl 0 rfl) ?_
        refine lv_if_eq (tgt := 148) hx hb dX3_sayTheSame_118 (by decide) (fun c8 => ?_) (fun c8 => ?_)
        · replace hf := (if_pos c8).symm.trans hf
          refine lv_iinc (v := x8 + 1) (lv' := [(8, .int (x8 + 1)), (11, .int o5), (10, .int o4), (9, .int o3), (0, .ref a_t), (1, .int x1), (2, .int x2), (3, .int x3), (4, .int x4), (5, .int x5), (6, .int x6), (7, .int x7)]) hx hb dX3_sayTheSame_148 hl (k := 11) rfl rfl (by decide) rfl (fun ls hl => ?_)
          refine lv_goto (tgt := 39) hx hb dX3_sayTheSame_151 (by decide) ?_
          exact ih _ _ _ _ _ hf _ _ _ hW (lv_sub hl [4, 5, 6, 7, 8, 9, 10, 11, 0] rfl)
        · replace hf := (if_neg c8).symm.trans hf
          refine lv_aload_n hx hb dX3_sayTheSame_121 rfl (lv_at hl 3 rfl) ?_
          refine gs_get hC hW in_X3 0 1 rfl rfl (by decide) fl_X3_15 rfl dX3_sayTheSame_122 ?_
          refine lv_iload hx hb dX3_sayTheSame_125 (lv_at hl 9 rfl) ?_
          refine lv_iload hx hb dX3_sayTheSame_127 (lv_at hl 2 rfl) ?_
          obtain ⟨o9, h9, hf⟩ := g_bnd hf
          refine gs_callVi (ws' := w_X3_sayTheSame cI cZ cJ a_t a_tp a_tp_parameterCounts a_tp_lengths a_tp_fields a_tk a_tk_any a_tk_numbers a_tp_entries a_tk_comeTo tp_functionCount tp_entryCount tp_parameterCounts tp_lengths tp_fields tk_any tk_numbers) hC hW (k_X1_numberOf l tA dC dI cI cZ cJ a_tk a_tk_numbers a_tk_comeTo a_tk_any x6 o3 tk_numbers _ h9) yk_X1_numberOf lk_X3_76 iv_X1_numberOf ⟨rfl, rfl⟩ ⟨Nat.le_of_ble_eq_true rfl, Nat.le_of_ble_eq_true rfl⟩ hl.1 5 rfl rfl [5, 7] [0, 1, 2, 3, 4, 6] [0, 1, 2, 3, 4, 6, 5, 7] rfl rfl rfl rfl (by decide) rfl rfl rfl rfl (Nat.le_of_ble_eq_true rfl) dX3_sayTheSame_129 ⟨Nat.zero_le _, Nat.zero_le _⟩ (fun H locs hW => ?_)
          refine lv_aload_n hx hb dX3_sayTheSame_132 rfl (lv_at hl 3 rfl) ?_
          refine gs_get hC hW in_X3 0 1 rfl rfl (by decide) fl_X3_15 rfl dX3_sayTheSame_133 ?_
          refine lv_iload hx hb dX3_sayTheSame_136 (lv_at hl 10 rfl) ?_
          refine lv_iload hx hb dX3_sayTheSame_138 (lv_at hl 1 rfl) ?_
          obtain ⟨o10, h10, hf⟩ := g_bnd hf
          refine gs_callVi (ws' := w_X3_sayTheSame cI cZ cJ a_t a_tp a_tp_parameterCounts a_tp_lengths a_tp_fields a_tk a_tk_any a_tk_numbers a_tp_entries a_tk_comeTo tp_functionCount tp_entryCount tp_parameterCounts tp_lengths tp_fields tk_any tk_numbers) hC hW (k_X1_numberOf l tA dC dI cI cZ cJ a_tk a_tk_numbers a_tk_comeTo a_tk_any x7 o4 tk_numbers _ h10) yk_X1_numberOf lk_X3_76 iv_X1_numberOf ⟨rfl, rfl⟩ ⟨Nat.le_of_ble_eq_true rfl, Nat.le_of_ble_eq_true rfl⟩ hl.1 5 rfl rfl [5, 7] [0, 1, 2, 3, 4, 6] [0, 1, 2, 3, 4, 6, 5, 7] rfl rfl rfl rfl (by decide) rfl rfl rfl rfl (Nat.le_of_ble_eq_true rfl) dX3_sayTheSame_140 ⟨Nat.zero_le _, Nat.zero_le _⟩ (fun H locs hW => ?_)
          refine lv_icmp_eq (tgt := 148) hx hb dX3_sayTheSame_143 (by decide) (fun c11 => ?_) (fun c11 => ?_)
          · replace hf := (if_pos c11).symm.trans hf
            refine lv_iinc (v := x8 + 1) (lv' := [(8, .int (x8 + 1)), (11, .int o5), (10, .int o4), (9, .int o3), (0, .ref a_t), (1, .int x1), (2, .int x2), (3, .int x3), (4, .int x4), (5, .int x5), (6, .int x6), (7, .int x7)]) hx hb dX3_sayTheSame_148 hl (k := 11) rfl rfl (by decide) rfl (fun ls hl => ?_)
            refine lv_goto (tgt := 39) hx hb dX3_sayTheSame_151 (by decide) ?_
            exact ih _ _ _ _ _ hf _ _ _ hW (lv_sub hl [4, 5, 6, 7, 8, 9, 10, 11, 0] rfl)
          · replace hf := (if_neg c11).symm.trans hf
            refine lv_iconst (v := 0) hx hb dX3_sayTheSame_146 (by decide) ?_
            obtain rfl := Option.some.inj hf
            exact gs_rz hC hW rfl g_n0 dX3_sayTheSame_147
      · replace hf := (if_neg c7).symm.trans hf
        refine lv_iconst (v := 0) hx hb dX3_sayTheSame_114 (by decide) ?_
        obtain rfl := Option.some.inj hf
        exact gs_rz hC hW rfl g_n0 dX3_sayTheSame_115
def f_X3_sayTheSame (N : Nat) (x1 : Int32) (x2 : Int32) (x3 : Int32) (x4 : Int32) (tp_parameterCounts : Nat → Int32) (tp_lengths : Nat → Int32) (tp_fields : Nat → Int32) (tk_any : Nat → Int32) (tk_numbers : Nat → Int32) : Option (Int32) := (f_X4_fieldOf x3 x4 2 tp_fields).bind (fun o12 => (f_X4_placeOf x1 x2 tp_lengths).bind (fun o13 => (f_X4_placeOf x3 x4 tp_lengths).bind (fun o14 => f_X3_sayTheSame_39 N x1 x2 x3 x4 tp_parameterCounts tp_lengths tp_fields tk_any tk_numbers N o12 o13 o14 0)))
set_option maxHeartbeats 4000000 in
set_option maxRecDepth 100000 in
theorem k_X3_sayTheSame (l : Launch) (tA : Nat) (dC : Nat → ClassId) (dI : Nat → Nat → Nat) (cI cZ cJ : ClassId) (a_t : Nat) (a_tp : Nat) (a_tp_parameterCounts : Nat) (a_tp_lengths : Nat) (a_tp_fields : Nat) (a_tk : Nat) (a_tk_any : Nat) (a_tk_numbers : Nat) (a_tp_entries : Nat) (a_tk_comeTo : Nat) (N : Nat) (x1 : Int32) (x2 : Int32) (x3 : Int32) (x4 : Int32) (tp_functionCount : Int32) (tp_entryCount : Int32) (tp_parameterCounts : Nat → Int32) (tp_lengths : Nat → Int32) (tp_fields : Nat → Int32) (tk_any : Nat → Int32) (tk_numbers : Nat → Int32) (out : Int32) (hf : f_X3_sayTheSame N x1 x2 x3 x4 tp_parameterCounts tp_lengths tp_fields tk_any tk_numbers = some out) : g_Mi l yX3_sayTheSame cX3_sayTheSame 12 (some .boolean) r_X3_sayTheSame tA dC dI cI cZ cJ [.ref a_t, .int x1, .int x2, .int x3, .int x4] (w_X3_sayTheSame cI cZ cJ a_t a_tp a_tp_parameterCounts a_tp_lengths a_tp_fields a_tk a_tk_any a_tk_numbers a_tp_entries a_tk_comeTo tp_functionCount tp_entryCount tp_parameterCounts tp_lengths tp_fields tk_any tk_numbers) (w_X3_sayTheSame cI cZ cJ a_t a_tp a_tp_parameterCounts a_tp_lengths a_tp_fields a_tk a_tk_any a_tk_numbers a_tp_entries a_tk_comeTo tp_functionCount tp_entryCount tp_parameterCounts tp_lengths tp_fields tk_any tk_numbers) out := by
  unfold f_X3_sayTheSame at hf
  refine ge_i (by decide) (Nat.le_of_ble_eq_true rfl) (fun p e s m below meth c A H locs ls hC hW hl => ?_)
  have hC : g_C p s m meth c _ cX3_sayTheSame 12 (some .boolean) RX3 := hC
  have hx := hC.1
  have hb := hC.2.1
  have hown := hC.2.2.2.2.1
  have hts := hC.2.2.2.2.2.1
  have hl : lv_has ls 12 [(0, .ref a_t), (1, .int x1), (2, .int x2), (3, .int x3), (4, .int x4)] := hl
  refine lv_aload_n hx hb dX3_sayTheSame_0 rfl (lv_at hl 0 rfl) ?_
  refine gs_get hC hW in_X3 0 0 rfl rfl (by decide) fl_X3_9 rfl dX3_sayTheSame_1 ?_
  refine lv_iload_n hx hb dX3_sayTheSame_4 rfl (lv_at hl 3 rfl) ?_
  refine lv_iload hx hb dX3_sayTheSame_5 (lv_at hl 4 rfl) ?_
  refine lv_iconst (v := 2) hx hb dX3_sayTheSame_7 (by decide) ?_
  obtain ⟨o12, h12, hf⟩ := g_bnd hf
  refine gs_callVi (ws' := w_X3_sayTheSame cI cZ cJ a_t a_tp a_tp_parameterCounts a_tp_lengths a_tp_fields a_tk a_tk_any a_tk_numbers a_tp_entries a_tk_comeTo tp_functionCount tp_entryCount tp_parameterCounts tp_lengths tp_fields tk_any tk_numbers) hC hW (k_X4_fieldOf l tA dC dI cI cZ cJ a_tp a_tp_fields a_tp_parameterCounts a_tp_lengths a_tp_entries x3 x4 2 tp_functionCount tp_entryCount tp_fields _ h12) yk_X4_fieldOf lk_X3_44 iv_X4_fieldOf ⟨rfl, rfl⟩ ⟨Nat.le_of_ble_eq_true rfl, Nat.le_of_ble_eq_true rfl⟩ hl.1 1 rfl rfl [1, 4] [0, 2, 3, 5, 6, 7] [0, 6, 1, 2, 7, 3, 4, 5] rfl rfl rfl rfl (by decide) rfl rfl rfl rfl (Nat.le_of_ble_eq_true rfl) dX3_sayTheSame_8 ⟨Nat.zero_le _, Nat.zero_le _⟩ (fun H locs hW => ?_)
  refine lv_istore (lv' := [(5, .int o12), (0, .ref a_t), (1, .int x1), (2, .int x2), (3, .int x3), (4, .int x4)]) hx hb dX3_sayTheSame_11 hl (by decide) rfl (fun ls hl => ?_)
  refine lv_aload_n hx hb dX3_sayTheSame_13 rfl (lv_at hl 1 rfl) ?_
  refine gs_get hC hW in_X3 0 0 rfl rfl (by decide) fl_X3_9 rfl dX3_sayTheSame_14 ?_
  refine lv_iload_n hx hb dX3_sayTheSame_17 rfl (lv_at hl 2 rfl) ?_
  refine lv_iload_n hx hb dX3_sayTheSame_18 rfl (lv_at hl 3 rfl) ?_
  obtain ⟨o13, h13, hf⟩ := g_bnd hf
  refine gs_callVi (ws' := w_X3_sayTheSame cI cZ cJ a_t a_tp a_tp_parameterCounts a_tp_lengths a_tp_fields a_tk a_tk_any a_tk_numbers a_tp_entries a_tk_comeTo tp_functionCount tp_entryCount tp_parameterCounts tp_lengths tp_fields tk_any tk_numbers) hC hW (k_X4_placeOf l tA dC dI cI cZ cJ a_tp a_tp_lengths a_tp_parameterCounts a_tp_fields a_tp_entries x1 x2 tp_functionCount tp_entryCount tp_lengths _ h13) yk_X4_placeOf lk_X3_54 iv_X4_placeOf ⟨rfl, rfl⟩ ⟨Nat.le_of_ble_eq_true rfl, Nat.le_of_ble_eq_true rfl⟩ hl.1 1 rfl rfl [1, 3] [0, 2, 4, 5, 6, 7] [0, 6, 1, 7, 2, 3, 4, 5] rfl rfl rfl rfl (by decide) rfl rfl rfl rfl (Nat.le_of_ble_eq_true rfl) dX3_sayTheSame_19 ⟨Nat.zero_le _, Nat.zero_le _⟩ (fun H locs hW => ?_)
  refine lv_istore (lv' := [(6, .int o13), (5, .int o12), (0, .ref a_t), (1, .int x1), (2, .int x2), (3, .int x3), (4, .int x4)]) hx hb dX3_sayTheSame_22 hl (by decide) rfl (fun ls hl => ?_)
  refine lv_aload_n hx hb dX3_sayTheSame_24 rfl (lv_at hl 2 rfl) ?_
  refine gs_get hC hW in_X3 0 0 rfl rfl (by decide) fl_X3_9 rfl dX3_sayTheSame_25 ?_
  refine lv_iload_n hx hb dX3_sayTheSame_28 rfl (lv_at hl 5 rfl) ?_
  refine lv_iload hx hb dX3_sayTheSame_29 (lv_at hl 6 rfl) ?_
  obtain ⟨o14, h14, hf⟩ := g_bnd hf
  refine gs_callVi (ws' := w_X3_sayTheSame cI cZ cJ a_t a_tp a_tp_parameterCounts a_tp_lengths a_tp_fields a_tk a_tk_any a_tk_numbers a_tp_entries a_tk_comeTo tp_functionCount tp_entryCount tp_parameterCounts tp_lengths tp_fields tk_any tk_numbers) hC hW (k_X4_placeOf l tA dC dI cI cZ cJ a_tp a_tp_lengths a_tp_parameterCounts a_tp_fields a_tp_entries x3 x4 tp_functionCount tp_entryCount tp_lengths _ h14) yk_X4_placeOf lk_X3_54 iv_X4_placeOf ⟨rfl, rfl⟩ ⟨Nat.le_of_ble_eq_true rfl, Nat.le_of_ble_eq_true rfl⟩ hl.1 1 rfl rfl [1, 3] [0, 2, 4, 5, 6, 7] [0, 6, 1, 7, 2, 3, 4, 5] rfl rfl rfl rfl (by decide) rfl rfl rfl rfl (Nat.le_of_ble_eq_true rfl) dX3_sayTheSame_31 ⟨Nat.zero_le _, Nat.zero_le _⟩ (fun H locs hW => ?_)
  refine lv_istore (lv' := [(7, .int o14), (6, .int o13), (5, .int o12), (0, .ref a_t), (1, .int x1), (2, .int x2), (3, .int x3), (4, .int x4)]) hx hb dX3_sayTheSame_34 hl (by decide) rfl (fun ls hl => ?_)
  refine lv_iconst (v := 0) hx hb dX3_sayTheSame_36 (by decide) ?_
  refine lv_istore (lv' := [(8, .int 0), (7, .int o14), (6, .int o13), (5, .int o12), (0, .ref a_t), (1, .int x1), (2, .int x2), (3, .int x3), (4, .int x4)]) hx hb dX3_sayTheSame_37 hl (by decide) rfl (fun ls hl => ?_)
  exact b_X3_sayTheSame_39 hC N _ _ _ _ _ hf _ _ _ hW (lv_sub hl [4, 5, 6, 7, 8, 3, 2, 1, 0] rfl)

abbrev w_X3_copyFor (cI cZ cJ : ClassId) (a_t : Nat) (a_tp : Nat) (a_tp_parameterCounts : Nat) (a_tp_lengths : Nat) (a_tp_fields : Nat) (a_tk : Nat) (a_tk_comeTo : Nat) (a_tk_any : Nat) (a_tk_numbers : Nat) (a_tp_entries : Nat) (tp_functionCount : Int32) (tp_entryCount : Int32) (tp_parameterCounts : Nat → Int32) (tp_lengths : Nat → Int32) (tp_fields : Nat → Int32) (tk_comeTo : Nat → Int32) (tk_any : Nat → Int32) (tk_numbers : Nat → Int32) : va_W := [(a_t, .inr (3, [.ref a_tp, .ref a_tk])), (a_tp, .inr (4, [.int tp_functionCount, .int tp_entryCount, .ref a_tp_parameterCounts, .ref a_tp_lengths, .ref a_tp_fields, .ref a_tp_entries])), (a_tp_parameterCounts, .inl (cI, 12, .inl tp_parameterCounts)), (a_tp_lengths, .inl (cI, 12, .inl tp_lengths)), (a_tp_fields, .inl (cI, 1152, .inl tp_fields)), (a_tk, .inr (1, [.ref a_tk_comeTo, .ref a_tk_any, .ref a_tk_numbers])), (a_tk_comeTo, .inl (cZ, 204, .inl tk_comeTo)), (a_tk_any, .inl (cZ, 1224, .inl tk_any)), (a_tk_numbers, .inl (cI, 1224, .inl tk_numbers))]
abbrev r_X3_copyFor : Room := { frames := 3, cells := 0, slots := 0, locals := 75 }
def f_X3_copyFor_34 (N : Nat) (k24 : Int32 → Int32 → Int32 → Int32 → (Nat → Int32) → (Nat → Int32) → (Nat → Int32) → Option (Int32 × (Nat → Int32) × (Nat → Int32) × (Nat → Int32))) (x1 : Int32) (x2 : Int32) (tk_comeTo : Nat → Int32) (tk_any : Nat → Int32) (tk_numbers : Nat → Int32) : Nat → Int32 → Int32 → Int32 → Int32 → Int32 → (Nat → Int32) → (Nat → Int32) → (Nat → Int32) → Option (Int32 × (Nat → Int32) × (Nat → Int32) × (Nat → Int32))
  | 0, _, _, _, _, _, _, _, _ => none
  | n + 1, x3, x4, x5, x6, tp_functionCount, tp_parameterCounts, tp_lengths, tp_fields => (g_rd 12 tp_lengths x5).bind (fun v1 => if v1 ≤ x6 then k24 x3 x4 (x5 + 1) tp_functionCount tp_parameterCounts tp_lengths tp_fields else (f_X3_isCallComeTo x5 x6 tp_lengths tp_fields tk_comeTo).bind (fun o3 => if o3 = 0 then f_X3_copyFor_34 N k24 x1 x2 tk_comeTo tk_any tk_numbers n x3 x4 x5 (x6 + 1) tp_functionCount tp_parameterCounts tp_lengths tp_fields else (f_X4_fieldOf x5 x6 2 tp_fields).bind (fun o5 => if o5 = x3 then (f_X3_sayTheSame N x1 x2 x5 x6 tp_parameterCounts tp_lengths tp_fields tk_any tk_numbers).bind (fun o7 => if o7 = 0 then f_X3_copyFor_34 N k24 x1 x2 tk_comeTo tk_any tk_numbers n x3 x4 x5 (x6 + 1) tp_functionCount tp_parameterCounts tp_lengths tp_fields else (f_X4_putField x5 x6 2 x4 tp_fields).bind (fun o9 => f_X3_copyFor_34 N k24 x1 x2 tk_comeTo tk_any tk_numbers n x3 x4 x5 (x6 + 1) tp_functionCount tp_parameterCounts tp_lengths o9)) else f_X3_copyFor_34 N k24 x1 x2 tk_comeTo tk_any tk_numbers n x3 x4 x5 (x6 + 1) tp_functionCount tp_parameterCounts tp_lengths tp_fields)))
set_option maxHeartbeats 4000000 in
set_option maxRecDepth 100000 in
theorem b_X3_copyFor_34 {p : Program} {l : Launch} {e : Env} {s : State} {m : MethodId} {args : Array Value} {below : List Frame} {meth : Method} {c : Code} {tA : Nat} {dC : Nat → ClassId} {dI : Nat → Nat → Nat} {cI cZ cJ : ClassId} {A : Nat → Prop} {a_t : Nat} {a_tp : Nat} {a_tp_parameterCounts : Nat} {a_tp_lengths : Nat} {a_tp_fields : Nat} {a_tk : Nat} {a_tk_comeTo : Nat} {a_tk_any : Nat} {a_tk_numbers : Nat} {a_tp_entries : Nat} {x1 : Int32} {x2 : Int32} {tk_comeTo : Nat → Int32} {tk_any : Nat → Int32} {tk_numbers : Nat → Int32} {tp_entryCount : Int32} {N : Nat} {k24 : Int32 → Int32 → Int32 → Int32 → (Nat → Int32) → (Nat → Int32) → (Nat → Int32) → Option (Int32 × (Nat → Int32) × (Nat → Int32) × (Nat → Int32))} (hC : g_C p s m meth c args cX3_copyFor 7 (none : Option Jvm.ClassFile.FieldType) RX3) (hk24 : ∀ (x3 : Int32) (x4 : Int32) (x5 : Int32) (tp_functionCount : Int32) (tp_parameterCounts : Nat → Int32) (tp_lengths : Nat → Int32) (tp_fields : Nat → Int32) (out : Int32 × (Nat → Int32) × (Nat → Int32) × (Nat → Int32)), k24 x3 x4 x5 tp_functionCount tp_parameterCounts tp_lengths tp_fields = some out → ∀ (H : Heap) (locs : List Loc) (ls : Array Slot), g_W tA dC dI cI cZ cJ A s H locs (w_X3_copyFor cI cZ cJ a_t a_tp a_tp_parameterCounts a_tp_lengths a_tp_fields a_tk a_tk_comeTo a_tk_any a_tk_numbers a_tp_entries tp_functionCount tp_entryCount tp_parameterCounts tp_lengths tp_fields tk_comeTo tk_any tk_numbers) → lv_has ls 7 [(0, .ref a_t), (1, .int x1), (2, .int x2), (3, .int x3), (4, .int x4), (5, .int x5)] → W p l e r_X3_copyFor s m args below meth c H locs 0 0 (MQ below (g_Qv dC dI cI cZ cJ A (w_X3_copyFor cI cZ cJ a_t a_tp a_tp_parameterCounts a_tp_lengths a_tp_fields a_tk a_tk_comeTo a_tk_any a_tk_numbers a_tp_entries out.1 tp_entryCount out.2.1 out.2.2.1 out.2.2.2 tk_comeTo tk_any tk_numbers)) args s 0 0 A) (F0 m 24 ls [])) :
    ∀ (n : Nat) (x3 : Int32) (x4 : Int32) (x5 : Int32) (x6 : Int32) (tp_functionCount : Int32) (tp_parameterCounts : Nat → Int32) (tp_lengths : Nat → Int32) (tp_fields : Nat → Int32) (out : Int32 × (Nat → Int32) × (Nat → Int32) × (Nat → Int32)), f_X3_copyFor_34 N k24 x1 x2 tk_comeTo tk_any tk_numbers n x3 x4 x5 x6 tp_functionCount tp_parameterCounts tp_lengths tp_fields = some out → ∀ (H : Heap) (locs : List Loc) (ls : Array Slot), g_W tA dC dI cI cZ cJ A s H locs (w_X3_copyFor cI cZ cJ a_t a_tp a_tp_parameterCounts a_tp_lengths a_tp_fields a_tk a_tk_comeTo a_tk_any a_tk_numbers a_tp_entries tp_functionCount tp_entryCount tp_parameterCounts tp_lengths tp_fields tk_comeTo tk_any tk_numbers) → lv_has ls 7 [(0, .ref a_t), (1, .int x1), (2, .int x2), (3, .int x3), (4, .int x4), (5, .int x5), (6, .int x6)] → W p l e r_X3_copyFor s m args below meth c H locs 0 0 (MQ below (g_Qv dC dI cI cZ cJ A (w_X3_copyFor cI cZ cJ a_t a_tp a_tp_parameterCounts a_tp_lengths a_tp_fields a_tk a_tk_comeTo a_tk_any a_tk_numbers a_tp_entries out.1 tp_entryCount out.2.1 out.2.2.1 out.2.2.2 tk_comeTo tk_any tk_numbers)) args s 0 0 A) (F0 m 34 ls []) := by
  have hx := hC.1
  have hb := hC.2.1
  have hown := hC.2.2.2.2.1
  have hts := hC.2.2.2.2.2.1
  intro n
  induction n with
  | zero =>
    intro x3 x4 x5 x6 tp_functionCount tp_parameterCounts tp_lengths tp_fields out hf
    exact g_no hf
  | succ n ih =>
    intro x3 x4 x5 x6 tp_functionCount tp_parameterCounts tp_lengths tp_fields out hf H locs ls hW hl
    refine lv_iload hx hb dX3_copyFor_34 (lv_at hl 6 rfl) ?_
    refine lv_aload_n hx hb dX3_copyFor_36 rfl (lv_at hl 0 rfl) ?_
    refine gs_get hC hW in_X3 0 0 rfl rfl (by decide) fl_X3_9 rfl dX3_copyFor_37 ?_
    refine gs_get hC hW in_X4 1 3 rfl rfl (by decide) fl_X3_33 rfl dX3_copyFor_40 ?_
    refine lv_iload hx hb dX3_copyFor_43 (lv_at hl 5 rfl) ?_
    obtain ⟨v1, h1, hf⟩ := g_bnd hf
    refine gs_iald hC hW 3 h1 rfl dX3_copyFor_45 ?_
    refine lv_icmp_ge (tgt := 109) hx hb dX3_copyFor_46 (by decide) (fun c2 => ?_) (fun c2 => ?_)
    · replace hf := (if_pos c2).symm.trans hf
      refine lv_iinc (v := x5 + 1) (lv' := [(5, .int (x5 + 1)), (0, .ref a_t), (1, .int x1), (2, .int x2), (3, .int x3), (4, .int x4), (6, .int x6)]) hx hb dX3_copyFor_109 hl (k := 5) rfl rfl (by decide) rfl (fun ls hl => ?_)
      refine lv_goto (tgt := 24) hx hb dX3_copyFor_112 (by decide) ?_
      exact hk24 _ _ _ _ _ _ _ _ hf _ _ _ hW (lv_sub hl [1, 2, 3, 4, 5, 0] rfl)
    · replace hf := (if_neg c2).symm.trans hf
      refine lv_aload_n hx hb dX3_copyFor_49 rfl (lv_at hl 0 rfl) ?_
      refine lv_iload hx hb dX3_copyFor_50 (lv_at hl 5 rfl) ?_
      refine lv_iload hx hb dX3_copyFor_52 (lv_at hl 6 rfl) ?_
      obtain ⟨o3, h3, hf⟩ := g_bnd hf
      refine gs_callVi (ws' := w_X3_copyFor cI cZ cJ a_t a_tp a_tp_parameterCounts a_tp_lengths a_tp_fields a_tk a_tk_comeTo a_tk_any a_tk_numbers a_tp_entries tp_functionCount tp_entryCount tp_parameterCounts tp_lengths tp_fields tk_comeTo tk_any tk_numbers) hC hW (k_X3_isCallComeTo l tA dC dI cI cZ cJ a_t a_tp a_tp_lengths a_tp_fields a_tk a_tk_comeTo a_tp_parameterCounts a_tp_entries a_tk_any a_tk_numbers x5 x6 tp_functionCount tp_entryCount tp_lengths tp_fields tk_comeTo _ h3) yk_X3_isCallComeTo lk_X3_37 iv_X3_isCallComeTo ⟨rfl, rfl⟩ ⟨Nat.le_of_ble_eq_true rfl, Nat.le_of_ble_eq_true rfl⟩ hl.1 0 rfl rfl [0, 1, 3, 4, 5, 6] [2, 7, 8] [3, 4, 0, 5, 6, 7, 8, 1, 2] rfl rfl rfl rfl (by decide) rfl rfl rfl rfl (Nat.le_of_ble_eq_true rfl) dX3_copyFor_54 ⟨Nat.zero_le _, Nat.zero_le _⟩ (fun H locs hW => ?_)
      refine lv_if_eq (tgt := 103) hx hb dX3_copyFor_57 (by decide) (fun c4 => ?_) (fun c4 => ?_)
      · replace hf := (if_pos c4).symm.trans hf
        refine lv_iinc (v := x6 + 1) (lv' := [(6, .int (x6 + 1)), (0, .ref a_t), (1, .int x1), (2, .int x2), (3, .int x3), (4, .int x4), (5, .int x5)]) hx hb dX3_copyFor_103 hl (k := 6) rfl rfl (by decide) rfl (fun ls hl => ?_)
        refine lv_goto (tgt := 34) hx hb dX3_copyFor_106 (by decide) ?_
        exact ih _ _ _ _ _ _ _ _ _ hf _ _ _ hW (lv_sub hl [1, 2, 3, 4, 5, 6, 0] rfl)
      · replace hf := (if_neg c4).symm.trans hf
        refine lv_aload_n hx hb dX3_copyFor_60 rfl (lv_at hl 0 rfl) ?_
        refine gs_get hC hW in_X3 0 0 rfl rfl (by decide) fl_X3_9 rfl dX3_copyFor_61 ?_
        refine lv_iload hx hb dX3_copyFor_64 (lv_at hl 5 rfl) ?_
        refine lv_iload hx hb dX3_copyFor_66 (lv_at hl 6 rfl) ?_
        refine lv_iconst (v := 2) hx hb dX3_copyFor_68 (by decide) ?_
        obtain ⟨o5, h5, hf⟩ := g_bnd hf
        refine gs_callVi (ws' := w_X3_copyFor cI cZ cJ a_t a_tp a_tp_parameterCounts a_tp_lengths a_tp_fields a_tk a_tk_comeTo a_tk_any a_tk_numbers a_tp_entries tp_functionCount tp_entryCount tp_parameterCounts tp_lengths tp_fields tk_comeTo tk_any tk_numbers) hC hW (k_X4_fieldOf l tA dC dI cI cZ cJ a_tp a_tp_fields a_tp_parameterCounts a_tp_lengths a_tp_entries x5 x6 2 tp_functionCount tp_entryCount tp_fields _ h5) yk_X4_fieldOf lk_X3_44 iv_X4_fieldOf ⟨rfl, rfl⟩ ⟨Nat.le_of_ble_eq_true rfl, Nat.le_of_ble_eq_true rfl⟩ hl.1 1 rfl rfl [1, 4] [0, 2, 3, 5, 6, 7, 8] [0, 7, 1, 2, 8, 3, 4, 5, 6] rfl rfl rfl rfl (by decide) rfl rfl rfl rfl (Nat.le_of_ble_eq_true rfl) dX3_copyFor_69 ⟨Nat.zero_le _, Nat.zero_le _⟩ (fun H locs hW => ?_)
        refine lv_iload_n hx hb dX3_copyFor_72 rfl (lv_at hl 3 rfl) ?_
        refine lv_icmp_ne (tgt := 103) hx hb dX3_copyFor_73 (by decide) (fun c6 => ?_) (fun c6 => ?_)
        · replace hf := (if_neg c6).symm.trans hf
          refine lv_iinc (v := x6 + 1) (lv' := [(6, .int (x6 + 1)), (0, .ref a_t), (1, .int x1), (2, .int x2), (3, .int x3), (4, .int x4), (5, .int x5)]) hx hb dX3_copyFor_103 hl (k := 6) rfl rfl (by decide) rfl (fun ls hl => ?_)
          refine lv_goto (tgt := 34) hx hb dX3_copyFor_106 (by decide) ?_
          exact ih _ _ _ _ _ _ _ _ _ hf _ _ _ hW (lv_sub hl [1, 2, 3, 4, 5, 6, 0] rfl)
        · replace hf := (if_pos c6).symm.trans hf
          refine lv_aload_n hx hb dX3_copyFor_76 rfl (lv_at hl 0 rfl) ?_
          refine lv_iload_n hx hb dX3_copyFor_77 rfl (lv_at hl 1 rfl) ?_
          refine lv_iload_n hx hb dX3_copyFor_78 rfl (lv_at hl 2 rfl) ?_
          refine lv_iload hx hb dX3_copyFor_79 (lv_at hl 5 rfl) ?_
          refine lv_iload hx hb dX3_copyFor_81 (lv_at hl 6 rfl) ?_
          obtain ⟨o7, h7, hf⟩ := g_bnd hf
          refine gs_callVi (ws' := w_X3_copyFor cI cZ cJ a_t a_tp a_tp_parameterCounts a_tp_lengths a_tp_fields a_tk a_tk_comeTo a_tk_any a_tk_numbers a_tp_entries tp_functionCount tp_entryCount tp_parameterCounts tp_lengths tp_fields tk_comeTo tk_any tk_numbers) hC hW (k_X3_sayTheSame l tA dC dI cI cZ cJ a_t a_tp a_tp_parameterCounts a_tp_lengths a_tp_fields a_tk a_tk_any a_tk_numbers a_tp_entries a_tk_comeTo N x1 x2 x5 x6 tp_functionCount tp_entryCount tp_parameterCounts tp_lengths tp_fields tk_any tk_numbers _ h7) yk_X3_sayTheSame lk_X3_68 iv_X3_sayTheSame ⟨rfl, rfl⟩ ⟨Nat.le_of_ble_eq_true rfl, Nat.le_of_ble_eq_true rfl⟩ hl.1 0 rfl rfl [0, 1, 2, 3, 4, 5, 7, 8] [6] [1, 2, 3, 4, 5, 6, 0, 7, 8] rfl rfl rfl rfl (by decide) rfl rfl rfl rfl (Nat.le_of_ble_eq_true rfl) dX3_copyFor_83 ⟨Nat.zero_le _, Nat.zero_le _⟩ (fun H locs hW => ?_)
          refine lv_if_eq (tgt := 103) hx hb dX3_copyFor_86 (by decide) (fun c8 => ?_) (fun c8 => ?_)
          · replace hf := (if_pos c8).symm.trans hf
            refine lv_iinc (v := x6 + 1) (lv' := [(6, .int (x6 + 1)), (0, .ref a_t), (1, .int x1), (2, .int x2), (3, .int x3), (4, .int x4), (5, .int x5)]) hx hb dX3_copyFor_103 hl (k := 6) rfl rfl (by decide) rfl (fun ls hl => ?_)
            refine lv_goto (tgt := 34) hx hb dX3_copyFor_106 (by decide) ?_
            exact ih _ _ _ _ _ _ _ _ _ hf _ _ _ hW (lv_sub hl [1, 2, 3, 4, 5, 6, 0] rfl)
          · replace hf := (if_neg c8).symm.trans hf
            refine lv_aload_n hx hb dX3_copyFor_89 rfl (lv_at hl 0 rfl) ?_
            refine gs_get hC hW in_X3 0 0 rfl rfl (by decide) fl_X3_9 rfl dX3_copyFor_90 ?_
            refine lv_iload hx hb dX3_copyFor_93 (lv_at hl 5 rfl) ?_
            refine lv_iload hx hb dX3_copyFor_95 (lv_at hl 6 rfl) ?_
            refine lv_iconst (v := 2) hx hb dX3_copyFor_97 (by decide) ?_
            refine lv_iload hx hb dX3_copyFor_98 (lv_at hl 4 rfl) ?_
            obtain ⟨o9, h9, hf⟩ := g_bnd hf
            refine gs_callVv (ws' := w_X3_copyFor cI cZ cJ a_t a_tp a_tp_parameterCounts a_tp_lengths a_tp_fields a_tk a_tk_comeTo a_tk_any a_tk_numbers a_tp_entries tp_functionCount tp_entryCount tp_parameterCounts tp_lengths o9 tk_comeTo tk_any tk_numbers) hC hW (k_X4_putField l tA dC dI cI cZ cJ a_tp a_tp_fields a_tp_parameterCounts a_tp_lengths a_tp_entries x5 x6 2 x4 tp_functionCount tp_entryCount tp_fields _ h9) yk_X4_putField lk_X3_72 iv_X4_putField ⟨rfl, rfl⟩ ⟨Nat.le_of_ble_eq_true rfl, Nat.le_of_ble_eq_true rfl⟩ hl.1 1 rfl rfl [1, 4] [0, 2, 3, 5, 6, 7, 8] [0, 7, 1, 2, 8, 3, 4, 5, 6] rfl rfl rfl rfl (by decide) rfl rfl rfl rfl (Nat.le_of_ble_eq_true rfl) dX3_copyFor_100 ⟨Nat.zero_le _, Nat.zero_le _⟩ (fun H locs hW => ?_)
            refine lv_iinc (v := x6 + 1) (lv' := [(6, .int (x6 + 1)), (0, .ref a_t), (1, .int x1), (2, .int x2), (3, .int x3), (4, .int x4), (5, .int x5)]) hx hb dX3_copyFor_103 hl (k := 6) rfl rfl (by decide) rfl (fun ls hl => ?_)
            refine lv_goto (tgt := 34) hx hb dX3_copyFor_106 (by decide) ?_
            exact ih _ _ _ _ _ _ _ _ _ hf _ _ _ hW (lv_sub hl [1, 2, 3, 4, 5, 6, 0] rfl)
def f_X3_copyFor_24 (N : Nat) (x1 : Int32) (x2 : Int32) (tk_comeTo : Nat → Int32) (tk_any : Nat → Int32) (tk_numbers : Nat → Int32) : Nat → Int32 → Int32 → Int32 → Int32 → (Nat → Int32) → (Nat → Int32) → (Nat → Int32) → Option (Int32 × (Nat → Int32) × (Nat → Int32) × (Nat → Int32))
  | 0, _, _, _, _, _, _, _ => none
  | n + 1, x3, x4, x5, tp_functionCount, tp_parameterCounts, tp_lengths, tp_fields => if x4 ≤ x5 then some (tp_functionCount, tp_parameterCounts, tp_lengths, tp_fields) else f_X3_copyFor_34 N (f_X3_copyFor_24 N x1 x2 tk_comeTo tk_any tk_numbers n) x1 x2 tk_comeTo tk_any tk_numbers N x3 x4 x5 0 tp_functionCount tp_parameterCounts tp_lengths tp_fields
set_option maxHeartbeats 4000000 in
set_option maxRecDepth 100000 in
theorem b_X3_copyFor_24 {p : Program} {l : Launch} {e : Env} {s : State} {m : MethodId} {args : Array Value} {below : List Frame} {meth : Method} {c : Code} {tA : Nat} {dC : Nat → ClassId} {dI : Nat → Nat → Nat} {cI cZ cJ : ClassId} {A : Nat → Prop} {a_t : Nat} {a_tp : Nat} {a_tp_parameterCounts : Nat} {a_tp_lengths : Nat} {a_tp_fields : Nat} {a_tk : Nat} {a_tk_comeTo : Nat} {a_tk_any : Nat} {a_tk_numbers : Nat} {a_tp_entries : Nat} {x1 : Int32} {x2 : Int32} {tk_comeTo : Nat → Int32} {tk_any : Nat → Int32} {tk_numbers : Nat → Int32} {tp_entryCount : Int32} {N : Nat} (hC : g_C p s m meth c args cX3_copyFor 7 (none : Option Jvm.ClassFile.FieldType) RX3) :
    ∀ (n : Nat) (x3 : Int32) (x4 : Int32) (x5 : Int32) (tp_functionCount : Int32) (tp_parameterCounts : Nat → Int32) (tp_lengths : Nat → Int32) (tp_fields : Nat → Int32) (out : Int32 × (Nat → Int32) × (Nat → Int32) × (Nat → Int32)), f_X3_copyFor_24 N x1 x2 tk_comeTo tk_any tk_numbers n x3 x4 x5 tp_functionCount tp_parameterCounts tp_lengths tp_fields = some out → ∀ (H : Heap) (locs : List Loc) (ls : Array Slot), g_W tA dC dI cI cZ cJ A s H locs (w_X3_copyFor cI cZ cJ a_t a_tp a_tp_parameterCounts a_tp_lengths a_tp_fields a_tk a_tk_comeTo a_tk_any a_tk_numbers a_tp_entries tp_functionCount tp_entryCount tp_parameterCounts tp_lengths tp_fields tk_comeTo tk_any tk_numbers) → lv_has ls 7 [(0, .ref a_t), (1, .int x1), (2, .int x2), (3, .int x3), (4, .int x4), (5, .int x5)] → W p l e r_X3_copyFor s m args below meth c H locs 0 0 (MQ below (g_Qv dC dI cI cZ cJ A (w_X3_copyFor cI cZ cJ a_t a_tp a_tp_parameterCounts a_tp_lengths a_tp_fields a_tk a_tk_comeTo a_tk_any a_tk_numbers a_tp_entries out.1 tp_entryCount out.2.1 out.2.2.1 out.2.2.2 tk_comeTo tk_any tk_numbers)) args s 0 0 A) (F0 m 24 ls []) := by
  have hx := hC.1
  have hb := hC.2.1
  have hown := hC.2.2.2.2.1
  have hts := hC.2.2.2.2.2.1
  intro n
  induction n with
  | zero =>
    intro x3 x4 x5 tp_functionCount tp_parameterCounts tp_lengths tp_fields out hf
    exact g_no hf
  | succ n ih =>
    intro x3 x4 x5 tp_functionCount tp_parameterCounts tp_lengths tp_fields out hf H locs ls hW hl
    refine lv_iload hx hb dX3_copyFor_24 (lv_at hl 5 rfl) ?_
    refine lv_iload hx hb dX3_copyFor_26 (lv_at hl 4 rfl) ?_
    refine lv_icmp_ge (tgt := 115) hx hb dX3_copyFor_28 (by decide) (fun c10 => ?_) (fun c10 => ?_)
    · replace hf := (if_pos c10).symm.trans hf
      obtain rfl := Option.some.inj hf
      exact gs_rv hC hW rfl dX3_copyFor_115
    · replace hf := (if_neg c10).symm.trans hf
      refine lv_iconst (v := 0) hx hb dX3_copyFor_31 (by decide) ?_
      refine lv_istore (lv' := [(6, .int 0), (0, .ref a_t), (1, .int x1), (2, .int x2), (3, .int x3), (4, .int x4), (5, .int x5)]) hx hb dX3_copyFor_32 hl (by decide) rfl (fun ls hl => ?_)
      exact b_X3_copyFor_34 hC ih N _ _ _ _ _ _ _ _ _ hf _ _ _ hW (lv_sub hl [1, 2, 3, 4, 5, 6, 0] rfl)
def f_X3_copyFor (N : Nat) (x1 : Int32) (x2 : Int32) (tp_functionCount : Int32) (tp_parameterCounts : Nat → Int32) (tp_lengths : Nat → Int32) (tp_fields : Nat → Int32) (tk_comeTo : Nat → Int32) (tk_any : Nat → Int32) (tk_numbers : Nat → Int32) : Option (Int32 × (Nat → Int32) × (Nat → Int32) × (Nat → Int32)) := (f_X4_fieldOf x1 x2 2 tp_fields).bind (fun o11 => (f_X4_addCopyOf o11 tp_functionCount tp_parameterCounts tp_lengths tp_fields).bind (fun o12 => f_X3_copyFor_24 N x1 x2 tk_comeTo tk_any tk_numbers N o11 o12.1 0 o12.2.1 o12.2.2.1 o12.2.2.2.1 o12.2.2.2.2))
set_option maxHeartbeats 4000000 in
set_option maxRecDepth 100000 in
theorem k_X3_copyFor (l : Launch) (tA : Nat) (dC : Nat → ClassId) (dI : Nat → Nat → Nat) (cI cZ cJ : ClassId) (a_t : Nat) (a_tp : Nat) (a_tp_parameterCounts : Nat) (a_tp_lengths : Nat) (a_tp_fields : Nat) (a_tk : Nat) (a_tk_comeTo : Nat) (a_tk_any : Nat) (a_tk_numbers : Nat) (a_tp_entries : Nat) (N : Nat) (x1 : Int32) (x2 : Int32) (tp_functionCount : Int32) (tp_entryCount : Int32) (tp_parameterCounts : Nat → Int32) (tp_lengths : Nat → Int32) (tp_fields : Nat → Int32) (tk_comeTo : Nat → Int32) (tk_any : Nat → Int32) (tk_numbers : Nat → Int32) (out : Int32 × (Nat → Int32) × (Nat → Int32) × (Nat → Int32)) (hf : f_X3_copyFor N x1 x2 tp_functionCount tp_parameterCounts tp_lengths tp_fields tk_comeTo tk_any tk_numbers = some out) : g_Mv l yX3_copyFor cX3_copyFor 7 (none : Option Jvm.ClassFile.FieldType) r_X3_copyFor tA dC dI cI cZ cJ [.ref a_t, .int x1, .int x2] (w_X3_copyFor cI cZ cJ a_t a_tp a_tp_parameterCounts a_tp_lengths a_tp_fields a_tk a_tk_comeTo a_tk_any a_tk_numbers a_tp_entries tp_functionCount tp_entryCount tp_parameterCounts tp_lengths tp_fields tk_comeTo tk_any tk_numbers) (w_X3_copyFor cI cZ cJ a_t a_tp a_tp_parameterCounts a_tp_lengths a_tp_fields a_tk a_tk_comeTo a_tk_any a_tk_numbers a_tp_entries out.1 tp_entryCount out.2.1 out.2.2.1 out.2.2.2 tk_comeTo tk_any tk_numbers) := by
  unfold f_X3_copyFor at hf
  refine ge_v (by decide) (Nat.le_of_ble_eq_true rfl) (fun p e s m below meth c A H locs ls hC hW hl => ?_)
  have hC : g_C p s m meth c _ cX3_copyFor 7 (none : Option Jvm.ClassFile.FieldType) RX3 := hC
  have hx := hC.1
  have hb := hC.2.1
  have hown := hC.2.2.2.2.1
  have hts := hC.2.2.2.2.2.1
  have hl : lv_has ls 7 [(0, .ref a_t), (1, .int x1), (2, .int x2)] := hl
  refine lv_aload_n hx hb dX3_copyFor_0 rfl (lv_at hl 0 rfl) ?_
  refine gs_get hC hW in_X3 0 0 rfl rfl (by decide) fl_X3_9 rfl dX3_copyFor_1 ?_
  refine lv_iload_n hx hb dX3_copyFor_4 rfl (lv_at hl 1 rfl) ?_
  refine lv_iload_n hx hb dX3_copyFor_5 rfl (lv_at hl 2 rfl) ?_
  refine lv_iconst (v := 2) hx hb dX3_copyFor_6 (by decide) ?_
  obtain ⟨o11, h11, hf⟩ := g_bnd hf
  refine gs_callVi (ws' := w_X3_copyFor cI cZ cJ a_t a_tp a_tp_parameterCounts a_tp_lengths a_tp_fields a_tk a_tk_comeTo a_tk_any a_tk_numbers a_tp_entries tp_functionCount tp_entryCount tp_parameterCounts tp_lengths tp_fields tk_comeTo tk_any tk_numbers) hC hW (k_X4_fieldOf l tA dC dI cI cZ cJ a_tp a_tp_fields a_tp_parameterCounts a_tp_lengths a_tp_entries x1 x2 2 tp_functionCount tp_entryCount tp_fields _ h11) yk_X4_fieldOf lk_X3_44 iv_X4_fieldOf ⟨rfl, rfl⟩ ⟨Nat.le_of_ble_eq_true rfl, Nat.le_of_ble_eq_true rfl⟩ hl.1 1 rfl rfl [1, 4] [0, 2, 3, 5, 6, 7, 8] [0, 7, 1, 2, 8, 3, 4, 5, 6] rfl rfl rfl rfl (by decide) rfl rfl rfl rfl (Nat.le_of_ble_eq_true rfl) dX3_copyFor_7 ⟨Nat.zero_le _, Nat.zero_le _⟩ (fun H locs hW => ?_)
  refine lv_istore_n (lv' := [(3, .int o11), (0, .ref a_t), (1, .int x1), (2, .int x2)]) hx hb dX3_copyFor_10 rfl hl (by decide) rfl (fun ls hl => ?_)
  refine lv_aload_n hx hb dX3_copyFor_11 rfl (lv_at hl 1 rfl) ?_
  refine gs_get hC hW in_X3 0 0 rfl rfl (by decide) fl_X3_9 rfl dX3_copyFor_12 ?_
  refine lv_iload_n hx hb dX3_copyFor_15 rfl (lv_at hl 0 rfl) ?_
  obtain ⟨o12, h12, hf⟩ := g_bnd hf
  refine gs_callVi (ws' := w_X3_copyFor cI cZ cJ a_t a_tp a_tp_parameterCounts a_tp_lengths a_tp_fields a_tk a_tk_comeTo a_tk_any a_tk_numbers a_tp_entries o12.2.1 tp_entryCount o12.2.2.1 o12.2.2.2.1 o12.2.2.2.2 tk_comeTo tk_any tk_numbers) hC hW (k_X4_addCopyOf l tA dC dI cI cZ cJ a_tp a_tp_parameterCounts a_tp_lengths a_tp_fields a_tp_entries o11 tp_functionCount tp_entryCount tp_parameterCounts tp_lengths tp_fields _ h12) yk_X4_addCopyOf lk_X3_64 iv_X4_addCopyOf ⟨rfl, rfl⟩ ⟨Nat.le_of_ble_eq_true rfl, Nat.le_of_ble_eq_true rfl⟩ hl.1 1 rfl rfl [1, 2, 3, 4] [0, 5, 6, 7, 8] [0, 5, 6, 7, 8, 1, 2, 3, 4] rfl rfl rfl rfl (by decide) rfl rfl rfl rfl (Nat.le_of_ble_eq_true rfl) dX3_copyFor_16 ⟨Nat.zero_le _, Nat.zero_le _⟩ (fun H locs hW => ?_)
  refine lv_istore (lv' := [(4, .int o12.1), (3, .int o11), (0, .ref a_t), (1, .int x1), (2, .int x2)]) hx hb dX3_copyFor_19 hl (by decide) rfl (fun ls hl => ?_)
  refine lv_iconst (v := 0) hx hb dX3_copyFor_21 (by decide) ?_
  refine lv_istore (lv' := [(5, .int 0), (4, .int o12.1), (3, .int o11), (0, .ref a_t), (1, .int x1), (2, .int x2)]) hx hb dX3_copyFor_22 hl (by decide) rfl (fun ls hl => ?_)
  exact b_X3_copyFor_24 hC N _ _ _ _ _ _ _ _ hf _ _ _ hW (lv_sub hl [3, 4, 5, 2, 1, 0] rfl)

abbrev w_X3_copyForSpecialCall (cI cZ cJ : ClassId) (a_t : Nat) (a_tp : Nat) (a_tp_parameterCounts : Nat) (a_tp_lengths : Nat) (a_tp_fields : Nat) (a_tk : Nat) (a_tk_comeTo : Nat) (a_tk_any : Nat) (a_tk_numbers : Nat) (a_tp_entries : Nat) (tp_functionCount : Int32) (tp_entryCount : Int32) (tp_parameterCounts : Nat → Int32) (tp_lengths : Nat → Int32) (tp_fields : Nat → Int32) (tk_comeTo : Nat → Int32) (tk_any : Nat → Int32) (tk_numbers : Nat → Int32) : va_W := [(a_t, .inr (3, [.ref a_tp, .ref a_tk])), (a_tp, .inr (4, [.int tp_functionCount, .int tp_entryCount, .ref a_tp_parameterCounts, .ref a_tp_lengths, .ref a_tp_fields, .ref a_tp_entries])), (a_tp_parameterCounts, .inl (cI, 12, .inl tp_parameterCounts)), (a_tp_lengths, .inl (cI, 12, .inl tp_lengths)), (a_tp_fields, .inl (cI, 1152, .inl tp_fields)), (a_tk, .inr (1, [.ref a_tk_comeTo, .ref a_tk_any, .ref a_tk_numbers])), (a_tk_comeTo, .inl (cZ, 204, .inl tk_comeTo)), (a_tk_any, .inl (cZ, 1224, .inl tk_any)), (a_tk_numbers, .inl (cI, 1224, .inl tk_numbers))]
abbrev r_X3_copyForSpecialCall : Room := { frames := 4, cells := 0, slots := 0, locals := 101 }
def f_X3_copyForSpecialCall (N : Nat) (tp_functionCount : Int32) (tp_parameterCounts : Nat → Int32) (tp_lengths : Nat → Int32) (tp_fields : Nat → Int32) (tk_comeTo : Nat → Int32) (tk_any : Nat → Int32) (tk_numbers : Nat → Int32) : Option (Int32 × Int32 × (Nat → Int32) × (Nat → Int32) × (Nat → Int32)) := (f_X3_firstSpecialCall N tp_functionCount tp_parameterCounts tp_lengths tp_fields tk_comeTo tk_any).bind (fun o1 => if o1 = (-1) then some (0, tp_functionCount, tp_parameterCounts, tp_lengths, tp_fields) else (g_dv o1 16).bind (fun v3 => (g_rm o1 16).bind (fun v4 => (f_X3_copyFor N v3 v4 tp_functionCount tp_parameterCounts tp_lengths tp_fields tk_comeTo tk_any tk_numbers).bind (fun o5 => some (1, o5.1, o5.2.1, o5.2.2.1, o5.2.2.2)))))
set_option maxHeartbeats 4000000 in
set_option maxRecDepth 100000 in
theorem k_X3_copyForSpecialCall (l : Launch) (tA : Nat) (dC : Nat → ClassId) (dI : Nat → Nat → Nat) (cI cZ cJ : ClassId) (a_t : Nat) (a_tp : Nat) (a_tp_parameterCounts : Nat) (a_tp_lengths : Nat) (a_tp_fields : Nat) (a_tk : Nat) (a_tk_comeTo : Nat) (a_tk_any : Nat) (a_tk_numbers : Nat) (a_tp_entries : Nat) (N : Nat) (tp_functionCount : Int32) (tp_entryCount : Int32) (tp_parameterCounts : Nat → Int32) (tp_lengths : Nat → Int32) (tp_fields : Nat → Int32) (tk_comeTo : Nat → Int32) (tk_any : Nat → Int32) (tk_numbers : Nat → Int32) (out : Int32 × Int32 × (Nat → Int32) × (Nat → Int32) × (Nat → Int32)) (hf : f_X3_copyForSpecialCall N tp_functionCount tp_parameterCounts tp_lengths tp_fields tk_comeTo tk_any tk_numbers = some out) : g_Mi l yX3_copyForSpecialCall cX3_copyForSpecialCall 2 (some .boolean) r_X3_copyForSpecialCall tA dC dI cI cZ cJ [.ref a_t] (w_X3_copyForSpecialCall cI cZ cJ a_t a_tp a_tp_parameterCounts a_tp_lengths a_tp_fields a_tk a_tk_comeTo a_tk_any a_tk_numbers a_tp_entries tp_functionCount tp_entryCount tp_parameterCounts tp_lengths tp_fields tk_comeTo tk_any tk_numbers) (w_X3_copyForSpecialCall cI cZ cJ a_t a_tp a_tp_parameterCounts a_tp_lengths a_tp_fields a_tk a_tk_comeTo a_tk_any a_tk_numbers a_tp_entries out.2.1 tp_entryCount out.2.2.1 out.2.2.2.1 out.2.2.2.2 tk_comeTo tk_any tk_numbers) out.1 := by
  unfold f_X3_copyForSpecialCall at hf
  refine ge_i (by decide) (Nat.le_of_ble_eq_true rfl) (fun p e s m below meth c A H locs ls hC hW hl => ?_)
  have hC : g_C p s m meth c _ cX3_copyForSpecialCall 2 (some .boolean) RX3 := hC
  have hx := hC.1
  have hb := hC.2.1
  have hown := hC.2.2.2.2.1
  have hts := hC.2.2.2.2.2.1
  have hl : lv_has ls 2 [(0, .ref a_t)] := hl
  refine lv_aload_n hx hb dX3_copyForSpecialCall_0 rfl (lv_at hl 0 rfl) ?_
  obtain ⟨o1, h1, hf⟩ := g_bnd hf
  refine gs_callVi (ws' := w_X3_copyForSpecialCall cI cZ cJ a_t a_tp a_tp_parameterCounts a_tp_lengths a_tp_fields a_tk a_tk_comeTo a_tk_any a_tk_numbers a_tp_entries tp_functionCount tp_entryCount tp_parameterCounts tp_lengths tp_fields tk_comeTo tk_any tk_numbers) hC hW (k_X3_firstSpecialCall l tA dC dI cI cZ cJ a_t a_tp a_tp_parameterCounts a_tp_lengths a_tp_fields a_tk a_tk_comeTo a_tk_any a_tp_entries a_tk_numbers N tp_functionCount tp_entryCount tp_parameterCounts tp_lengths tp_fields tk_comeTo tk_any _ h1) yk_X3_firstSpecialCall lk_X3_19 iv_X3_firstSpecialCall ⟨rfl, rfl⟩ ⟨Nat.le_of_ble_eq_true rfl, Nat.le_of_ble_eq_true rfl⟩ hl.1 0 rfl rfl [0, 1, 2, 3, 4, 5, 6, 7] [8] [1, 2, 3, 4, 5, 6, 7, 8, 0] rfl rfl rfl rfl (by decide) rfl rfl rfl rfl (Nat.le_of_ble_eq_true rfl) dX3_copyForSpecialCall_1 ⟨Nat.zero_le _, Nat.zero_le _⟩ (fun H locs hW => ?_)
  refine lv_istore_n (lv' := [(1, .int o1), (0, .ref a_t)]) hx hb dX3_copyForSpecialCall_4 rfl hl (by decide) rfl (fun ls hl => ?_)
  refine lv_iload_n hx hb dX3_copyForSpecialCall_5 rfl (lv_at hl 0 rfl) ?_
  refine lv_iconst (v := (-1)) hx hb dX3_copyForSpecialCall_6 (by decide) ?_
  refine lv_icmp_ne (tgt := 12) hx hb dX3_copyForSpecialCall_7 (by decide) (fun c2 => ?_) (fun c2 => ?_)
  · replace hf := (if_neg c2).symm.trans hf
    refine lv_aload_n hx hb dX3_copyForSpecialCall_12 rfl (lv_at hl 1 rfl) ?_
    refine lv_iload_n hx hb dX3_copyForSpecialCall_13 rfl (lv_at hl 0 rfl) ?_
    refine lv_bipush (v := 16) hx hb dX3_copyForSpecialCall_14 (by decide) ?_
    obtain ⟨v3, h3, hf⟩ := g_bnd hf
    refine gs_idiv hC h3 dX3_copyForSpecialCall_16 ?_
    refine lv_iload_n hx hb dX3_copyForSpecialCall_17 rfl (lv_at hl 0 rfl) ?_
    refine lv_bipush (v := 16) hx hb dX3_copyForSpecialCall_18 (by decide) ?_
    obtain ⟨v4, h4, hf⟩ := g_bnd hf
    refine gs_irem hC h4 dX3_copyForSpecialCall_20 ?_
    obtain ⟨o5, h5, hf⟩ := g_bnd hf
    refine gs_callVv (ws' := w_X3_copyForSpecialCall cI cZ cJ a_t a_tp a_tp_parameterCounts a_tp_lengths a_tp_fields a_tk a_tk_comeTo a_tk_any a_tk_numbers a_tp_entries o5.1 tp_entryCount o5.2.1 o5.2.2.1 o5.2.2.2 tk_comeTo tk_any tk_numbers) hC hW (k_X3_copyFor l tA dC dI cI cZ cJ a_t a_tp a_tp_parameterCounts a_tp_lengths a_tp_fields a_tk a_tk_comeTo a_tk_any a_tk_numbers a_tp_entries N v3 v4 tp_functionCount tp_entryCount tp_parameterCounts tp_lengths tp_fields tk_comeTo tk_any tk_numbers _ h5) yk_X3_copyFor lk_X3_23 iv_X3_copyFor ⟨rfl, rfl⟩ ⟨Nat.le_of_ble_eq_true rfl, Nat.le_of_ble_eq_true rfl⟩ hl.1 0 rfl rfl [0, 1, 2, 3, 4, 5, 6, 7, 8] [] [0, 1, 2, 3, 4, 5, 6, 7, 8] rfl rfl rfl rfl (by decide) rfl rfl rfl rfl (Nat.le_of_ble_eq_true rfl) dX3_copyForSpecialCall_21 ⟨Nat.zero_le _, Nat.zero_le _⟩ (fun H locs hW => ?_)
    refine lv_iconst (v := 1) hx hb dX3_copyForSpecialCall_24 (by decide) ?_
    obtain rfl := Option.some.inj hf
    exact gs_rz hC hW rfl g_n1 dX3_copyForSpecialCall_25
  · replace hf := (if_pos c2).symm.trans hf
    refine lv_iconst (v := 0) hx hb dX3_copyForSpecialCall_10 (by decide) ?_
    obtain rfl := Option.some.inj hf
    exact gs_rz hC hW rfl g_n0 dX3_copyForSpecialCall_11
