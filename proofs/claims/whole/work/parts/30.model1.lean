theorem in_X8 : ∀ w ∈ wsX80, w ∈ gw := by decide +kernel
theorem fl_X8_74 : Cond.fieldLink RX8 74 (TX8 0).1 (TX8 0).2.1 (TX8 0).2.2.1 ∈ gw := gw_i 780 (by decide +kernel) rfl
theorem fl_X8_78 : Cond.fieldLink RX8 78 (TX8 13).1 (TX8 13).2.1 (TX8 13).2.2.1 ∈ gw := gw_i 793 (by decide +kernel) rfl
theorem fl_X8_82 : Cond.fieldLink RX8 82 (TX8 1).1 (TX8 1).2.1 (TX8 1).2.2.1 ∈ gw := gw_i 781 (by decide +kernel) rfl
theorem fl_X8_85 : Cond.fieldLink RX8 85 (TX8 2).1 (TX8 2).2.1 (TX8 2).2.2.1 ∈ gw := gw_i 782 (by decide +kernel) rfl
theorem fl_X8_7 : Cond.fieldLink RX8 7 (TX8 3).1 (TX8 3).2.1 (TX8 3).2.2.1 ∈ gw := gw_i 783 (by decide +kernel) rfl
theorem fl_X8_13 : Cond.fieldLink RX8 13 (TX8 4).1 (TX8 4).2.1 (TX8 4).2.2.1 ∈ gw := gw_i 784 (by decide +kernel) rfl
theorem yk_X8_forget : g_Y yX8_forget cX8_forget 1 (none : Option Jvm.ClassFile.FieldType) 0 := ⟨gw_i 891 (by decide +kernel) rfl, gw_i 64 (by decide +kernel) rfl, by decide +kernel, by decide +kernel, by decide +kernel⟩
theorem lk_X8_88 : Cond.methodLink RX8 88 yX8_forget ∈ gw := gw_i 888 (by decide +kernel) rfl
theorem iv_X8_forget : Cond.instanceMethod yX8_forget ∈ gw ∧ Cond.selects RX8 yX8_forget yX8_forget ∈ gw := ⟨gw_i 890 (by decide +kernel) rfl, gw_i 29 (by decide +kernel) rfl⟩
theorem lk_X8_95 : Cond.methodLink RX8 95 yX8_isOperand ∈ gw := gw_i 907 (by decide +kernel) rfl
theorem yk_X8_isOperand : g_Y yX8_isOperand cX8_isOperand 1 (some .boolean) 1 := ⟨gw_i 909 (by decide +kernel) rfl, gw_i 64 (by decide +kernel) rfl, by decide +kernel, by decide +kernel, by decide +kernel⟩
theorem is_X8_isOperand : Cond.static yX8_isOperand ∈ gw := gw_i 908 (by decide +kernel) rfl
theorem yk_X8_isFunction : g_Y yX8_isFunction cX8_isFunction 2 (some .boolean) 1 := ⟨gw_i 899 (by decide +kernel) rfl, gw_i 64 (by decide +kernel) rfl, by decide +kernel, by decide +kernel, by decide +kernel⟩
theorem lk_X8_99 : Cond.methodLink RX8 99 yX8_isFunction ∈ gw := gw_i 896 (by decide +kernel) rfl
theorem iv_X8_isFunction : Cond.instanceMethod yX8_isFunction ∈ gw ∧ Cond.selects RX8 yX8_isFunction yX8_isFunction ∈ gw := ⟨gw_i 898 (by decide +kernel) rfl, gw_i 30 (by decide +kernel) rfl⟩
theorem lk_X8_91 : Cond.methodLink RX8 91 yX8_uses ∈ gw := gw_i 904 (by decide +kernel) rfl
theorem yk_X8_uses : g_Y yX8_uses cX8_uses 1 (some .int) 1 := ⟨gw_i 906 (by decide +kernel) rfl, gw_i 64 (by decide +kernel) rfl, by decide +kernel, by decide +kernel, by decide +kernel⟩
theorem is_X8_uses : Cond.static yX8_uses ∈ gw := gw_i 905 (by decide +kernel) rfl
theorem fl_X8_19 : Cond.fieldLink RX8 19 (TX8 6).1 (TX8 6).2.1 (TX8 6).2.2.1 ∈ gw := gw_i 786 (by decide +kernel) rfl
theorem yk_X8_isGood : g_Y yX8_isGood cX8_isGood 8 (some .boolean) 6 := ⟨gw_i 903 (by decide +kernel) rfl, gw_i 64 (by decide +kernel) rfl, by decide +kernel, by decide +kernel, by decide +kernel⟩
theorem lk_X8_102 : Cond.methodLink RX8 102 yX8_isGood ∈ gw := gw_i 900 (by decide +kernel) rfl
theorem iv_X8_isGood : Cond.instanceMethod yX8_isGood ∈ gw ∧ Cond.selects RX8 yX8_isGood yX8_isGood ∈ gw := ⟨gw_i 902 (by decide +kernel) rfl, gw_i 31 (by decide +kernel) rfl⟩
theorem fl_X8_28 : Cond.fieldLink RX8 28 (TX8 10).1 (TX8 10).2.1 (TX8 10).2.2.1 ∈ gw := gw_i 790 (by decide +kernel) rfl
theorem fl_X8_106 : Cond.fieldLink RX8 106 (TX8 9).1 (TX8 9).2.1 (TX8 9).2.2.1 ∈ gw := gw_i 789 (by decide +kernel) rfl
theorem fl_X8_109 : Cond.fieldLink RX8 109 (TX8 11).1 (TX8 11).2.1 (TX8 11).2.2.1 ∈ gw := gw_i 791 (by decide +kernel) rfl
theorem fl_X8_31 : Cond.fieldLink RX8 31 (TX8 12).1 (TX8 12).2.1 (TX8 12).2.2.1 ∈ gw := gw_i 792 (by decide +kernel) rfl
theorem lk_X8_112 : Cond.methodLink RX8 112 yX8_isNumber ∈ gw := gw_i 950 (by decide +kernel) rfl
theorem yk_X8_isNumber : g_Y yX8_isNumber cX8_isNumber 1 (some .boolean) 1 := ⟨gw_i 952 (by decide +kernel) rfl, gw_i 64 (by decide +kernel) rfl, by decide +kernel, by decide +kernel, by decide +kernel⟩
theorem is_X8_isNumber : Cond.static yX8_isNumber ∈ gw := gw_i 951 (by decide +kernel) rfl
theorem fl_X8_38 : Cond.fieldLink RX8 38 (TX8 15).1 (TX8 15).2.1 (TX8 15).2.2.1 ∈ gw := gw_i 795 (by decide +kernel) rfl
theorem fl_X8_41 : Cond.fieldLink RX8 41 (TX8 16).1 (TX8 16).2.1 (TX8 16).2.2.1 ∈ gw := gw_i 796 (by decide +kernel) rfl
theorem fl_X8_115 : Cond.fieldLink RX8 115 (TX8 17).1 (TX8 17).2.1 (TX8 17).2.2.1 ∈ gw := gw_i 797 (by decide +kernel) rfl
theorem fl_X8_47 : Cond.fieldLink RX8 47 (TX8 19).1 (TX8 19).2.1 (TX8 19).2.2.1 ∈ gw := gw_i 799 (by decide +kernel) rfl
theorem fl_X8_44 : Cond.fieldLink RX8 44 (TX8 18).1 (TX8 18).2.1 (TX8 18).2.2.1 ∈ gw := gw_i 798 (by decide +kernel) rfl
theorem fl_X8_34 : Cond.fieldLink RX8 34 (TX8 14).1 (TX8 14).2.1 (TX8 14).2.2.1 ∈ gw := gw_i 794 (by decide +kernel) rfl
theorem yk_X8_valueAt : g_Y yX8_valueAt cX8_valueAt 3 (some .int) 2 := ⟨gw_i 956 (by decide +kernel) rfl, gw_i 64 (by decide +kernel) rfl, by decide +kernel, by decide +kernel, by decide +kernel⟩
theorem lk_X8_122 : Cond.methodLink RX8 122 yX8_valueAt ∈ gw := gw_i 953 (by decide +kernel) rfl
theorem iv_X8_valueAt : Cond.instanceMethod yX8_valueAt ∈ gw ∧ Cond.selects RX8 yX8_valueAt yX8_valueAt ∈ gw := ⟨gw_i 955 (by decide +kernel) rfl, gw_i 38 (by decide +kernel) rfl⟩
theorem yk_X8_has : g_Y yX8_has cX8_has 3 (some .boolean) 2 := ⟨gw_i 949 (by decide +kernel) rfl, gw_i 64 (by decide +kernel) rfl, by decide +kernel, by decide +kernel, by decide +kernel⟩
theorem lk_X8_118 : Cond.methodLink RX8 118 yX8_has ∈ gw := gw_i 946 (by decide +kernel) rfl
theorem iv_X8_has : Cond.instanceMethod yX8_has ∈ gw ∧ Cond.selects RX8 yX8_has yX8_has ∈ gw := ⟨gw_i 948 (by decide +kernel) rfl, gw_i 37 (by decide +kernel) rfl⟩
theorem fl_X8_22 : Cond.fieldLink RX8 22 (TX8 7).1 (TX8 7).2.1 (TX8 7).2.2.1 ∈ gw := gw_i 787 (by decide +kernel) rfl
theorem yk_X8_come : g_Y yX8_come cX8_come 8 (none : Option Jvm.ClassFile.FieldType) 2 := ⟨gw_i 933 (by decide +kernel) rfl, gw_i 64 (by decide +kernel) rfl, by decide +kernel, by decide +kernel, by decide +kernel⟩
theorem lk_X8_126 : Cond.methodLink RX8 126 yX8_come ∈ gw := gw_i 930 (by decide +kernel) rfl
theorem iv_X8_come : Cond.instanceMethod yX8_come ∈ gw ∧ Cond.selects RX8 yX8_come yX8_come ∈ gw := ⟨gw_i 932 (by decide +kernel) rfl, gw_i 33 (by decide +kernel) rfl⟩
theorem yk_X8_enter : g_Y yX8_enter cX8_enter 7 (none : Option Jvm.ClassFile.FieldType) 3 := ⟨gw_i 945 (by decide +kernel) rfl, gw_i 64 (by decide +kernel) rfl, by decide +kernel, by decide +kernel, by decide +kernel⟩
theorem lk_X8_130 : Cond.methodLink RX8 130 yX8_enter ∈ gw := gw_i 942 (by decide +kernel) rfl
theorem iv_X8_enter : Cond.instanceMethod yX8_enter ∈ gw ∧ Cond.selects RX8 yX8_enter yX8_enter ∈ gw := ⟨gw_i 944 (by decide +kernel) rfl, gw_i 36 (by decide +kernel) rfl⟩
theorem yk_X8_entry : g_Y yX8_entry cX8_entry 3 (some .int) 1 := ⟨gw_i 960 (by decide +kernel) rfl, gw_i 64 (by decide +kernel) rfl, by decide +kernel, by decide +kernel, by decide +kernel⟩
theorem lk_X8_134 : Cond.methodLink RX8 134 yX8_entry ∈ gw := gw_i 957 (by decide +kernel) rfl
theorem iv_X8_entry : Cond.instanceMethod yX8_entry ∈ gw ∧ Cond.selects RX8 yX8_entry yX8_entry ∈ gw := ⟨gw_i 959 (by decide +kernel) rfl, gw_i 39 (by decide +kernel) rfl⟩
abbrev w_X8_thrown (cI cZ cJ : ClassId) (a_t : Nat) (a_t_parameters : Nat) (a_t_length : Nat) (a_t_newLength : Nat) (a_t_first : Nat) (a_t_now : Nat) (a_t_anew : Nat) (a_t_table : Nat) (a_t_inputs : Nat) (a_t_met : Nat) (a_t_any : Nat) (a_t_number : Nat) (a_t_outAny : Nat) (a_t_out : Nat) (a_t_at : Nat) (a_t_in : Nat) (a_t_back : Nat) (a_t_register : Nat) (a_t_output : Nat) (a_t_calls : Nat) (a_t_latest : Nat) (a_t_differ : Nat) (t_code : Int32) (t_own : Int32) (t_count : Int32) (t_tableSize : Int32) (t_given : Int32) (t_known : Int32) (t_news : Int32) (t_depth : Int32) (t_steps : Int32) (t_taken : Int32) (t_shown : Int32) (t_outcome : Int32) : va_W := [(a_t, .inr (8, [.int t_code, .int t_own, .int t_count, .ref a_t_parameters, .ref a_t_length, .ref a_t_newLength, .ref a_t_first, .ref a_t_now, .ref a_t_anew, .int t_tableSize, .ref a_t_table, .int t_given, .ref a_t_inputs, .int t_known, .ref a_t_met, .ref a_t_any, .ref a_t_number, .int t_news, .ref a_t_outAny, .ref a_t_out, .int t_depth, .int t_steps, .int t_taken, .int t_shown, .ref a_t_at, .ref a_t_in, .ref a_t_back, .ref a_t_register, .ref a_t_output, .ref a_t_calls, .ref a_t_latest, .ref a_t_differ, .int t_outcome]))]
abbrev r_X8_thrown : Room := { frames := 0, cells := 0, slots := 0, locals := 0 }
def f_X8_thrown (t_code : Int32) : Option (Int32) := some t_code
set_option maxHeartbeats 4000000 in
set_option maxRecDepth 100000 in
theorem k_X8_thrown (l : Launch) (tA : Nat) (dC : Nat → ClassId) (dI : Nat → Nat → Nat) (cI cZ cJ : ClassId) (a_t : Nat) (a_t_parameters : Nat) (a_t_length : Nat) (a_t_newLength : Nat) (a_t_first : Nat) (a_t_now : Nat) (a_t_anew : Nat) (a_t_table : Nat) (a_t_inputs : Nat) (a_t_met : Nat) (a_t_any : Nat) (a_t_number : Nat) (a_t_outAny : Nat) (a_t_out : Nat) (a_t_at : Nat) (a_t_in : Nat) (a_t_back : Nat) (a_t_register : Nat) (a_t_output : Nat) (a_t_calls : Nat) (a_t_latest : Nat) (a_t_differ : Nat) (t_code : Int32) (t_own : Int32) (t_count : Int32) (t_tableSize : Int32) (t_given : Int32) (t_known : Int32) (t_news : Int32) (t_depth : Int32) (t_steps : Int32) (t_taken : Int32) (t_shown : Int32) (t_outcome : Int32) (out : Int32) (hf : f_X8_thrown t_code = some out) : g_Mi l yX8_thrown cX8_thrown 1 (some .int) r_X8_thrown tA dC dI cI cZ cJ [.ref a_t] (w_X8_thrown cI cZ cJ a_t a_t_parameters a_t_length a_t_newLength a_t_first a_t_now a_t_anew a_t_table a_t_inputs a_t_met a_t_any a_t_number a_t_outAny a_t_out a_t_at a_t_in a_t_back a_t_register a_t_output a_t_calls a_t_latest a_t_differ t_code t_own t_count t_tableSize t_given t_known t_news t_depth t_steps t_taken t_shown t_outcome) (w_X8_thrown cI cZ cJ a_t a_t_parameters a_t_length a_t_newLength a_t_first a_t_now a_t_anew a_t_table a_t_inputs a_t_met a_t_any a_t_number a_t_outAny a_t_out a_t_at a_t_in a_t_back a_t_register a_t_output a_t_calls a_t_latest a_t_differ t_code t_own t_count t_tableSize t_given t_known t_news t_depth t_steps t_taken t_shown t_outcome) out := by
  unfold f_X8_thrown at hf
  refine ge_i (by decide) (Nat.le_of_ble_eq_true rfl) (fun p e s m below meth c A H locs ls hC hW hl => ?_)
  have hC : g_C p s m meth c _ cX8_thrown 1 (some .int) RX8 := hC
  have hx := hC.1
  have hb := hC.2.1
  have hown := hC.2.2.2.2.1
  have hts := hC.2.2.2.2.2.1
  have hl : lv_has ls 1 [(0, .ref a_t)] := hl
  refine lv_aload_n hx hb dX8_thrown_0 rfl (lv_at hl 0 rfl) ?_
  refine gs_get hC hW in_X8 0 0 rfl rfl (by decide) fl_X8_74 rfl dX8_thrown_1 ?_
  obtain rfl := Option.some.inj hf
  exact gs_ri hC hW rfl dX8_thrown_4

abbrev w_X8_fail (cI cZ cJ : ClassId) (a_t : Nat) (a_t_parameters : Nat) (a_t_length : Nat) (a_t_newLength : Nat) (a_t_first : Nat) (a_t_now : Nat) (a_t_anew : Nat) (a_t_table : Nat) (a_t_inputs : Nat) (a_t_met : Nat) (a_t_any : Nat) (a_t_number : Nat) (a_t_outAny : Nat) (a_t_out : Nat) (a_t_at : Nat) (a_t_in : Nat) (a_t_back : Nat) (a_t_register : Nat) (a_t_output : Nat) (a_t_calls : Nat) (a_t_latest : Nat) (a_t_differ : Nat) (t_code : Int32) (t_own : Int32) (t_count : Int32) (t_tableSize : Int32) (t_given : Int32) (t_known : Int32) (t_news : Int32) (t_depth : Int32) (t_steps : Int32) (t_taken : Int32) (t_shown : Int32) (t_outcome : Int32) : va_W := [(a_t, .inr (8, [.int t_code, .int t_own, .int t_count, .ref a_t_parameters, .ref a_t_length, .ref a_t_newLength, .ref a_t_first, .ref a_t_now, .ref a_t_anew, .int t_tableSize, .ref a_t_table, .int t_given, .ref a_t_inputs, .int t_known, .ref a_t_met, .ref a_t_any, .ref a_t_number, .int t_news, .ref a_t_outAny, .ref a_t_out, .int t_depth, .int t_steps, .int t_taken, .int t_shown, .ref a_t_at, .ref a_t_in, .ref a_t_back, .ref a_t_register, .ref a_t_output, .ref a_t_calls, .ref a_t_latest, .ref a_t_differ, .int t_outcome]))]
abbrev r_X8_fail : Room := { frames := 0, cells := 0, slots := 0, locals := 0 }
def f_X8_fail (x1 : Int32) (t_code : Int32) : Option (Int32 × Int32) := some (0, x1)
set_option maxHeartbeats 4000000 in
set_option maxRecDepth 100000 in
theorem k_X8_fail (l : Launch) (tA : Nat) (dC : Nat → ClassId) (dI : Nat → Nat → Nat) (cI cZ cJ : ClassId) (a_t : Nat) (a_t_parameters : Nat) (a_t_length : Nat) (a_t_newLength : Nat) (a_t_first : Nat) (a_t_now : Nat) (a_t_anew : Nat) (a_t_table : Nat) (a_t_inputs : Nat) (a_t_met : Nat) (a_t_any : Nat) (a_t_number : Nat) (a_t_outAny : Nat) (a_t_out : Nat) (a_t_at : Nat) (a_t_in : Nat) (a_t_back : Nat) (a_t_register : Nat) (a_t_output : Nat) (a_t_calls : Nat) (a_t_latest : Nat) (a_t_differ : Nat) (x1 : Int32) (t_code : Int32) (t_own : Int32) (t_count : Int32) (t_tableSize : Int32) (t_given : Int32) (t_known : Int32) (t_news : Int32) (t_depth : Int32) (t_steps : Int32) (t_taken : Int32) (t_shown : Int32) (t_outcome : Int32) (out : Int32 × Int32) (hf : f_X8_fail x1 t_code = some out) : g_Mi l yX8_fail cX8_fail 2 (some .int) r_X8_fail tA dC dI cI cZ cJ [.ref a_t, .int x1] (w_X8_fail cI cZ cJ a_t a_t_parameters a_t_length a_t_newLength a_t_first a_t_now a_t_anew a_t_table a_t_inputs a_t_met a_t_any a_t_number a_t_outAny a_t_out a_t_at a_t_in a_t_back a_t_register a_t_output a_t_calls a_t_latest a_t_differ t_code t_own t_count t_tableSize t_given t_known t_news t_depth t_steps t_taken t_shown t_outcome) (w_X8_fail cI cZ cJ a_t a_t_parameters a_t_length a_t_newLength a_t_first a_t_now a_t_anew a_t_table a_t_inputs a_t_met a_t_any a_t_number a_t_outAny a_t_out a_t_at a_t_in a_t_back a_t_register a_t_output a_t_calls a_t_latest a_t_differ out.2 t_own t_count t_tableSize t_given t_known t_news t_depth t_steps t_taken t_shown t_outcome) out.1 := by
  unfold f_X8_fail at hf
  refine ge_i (by decide) (Nat.le_of_ble_eq_true rfl) (fun p e s m below meth c A H locs ls hC hW hl => ?_)
  have hC : g_C p s m meth c _ cX8_fail 2 (some .int) RX8 := hC
  have hx := hC.1
  have hb := hC.2.1
  have hown := hC.2.2.2.2.1
  have hts := hC.2.2.2.2.2.1
  have hl : lv_has ls 2 [(0, .ref a_t), (1, .int x1)] := hl
  refine lv_aload_n hx hb dX8_fail_0 rfl (lv_at hl 0 rfl) ?_
  refine lv_iload_n hx hb dX8_fail_1 rfl (lv_at hl 1 rfl) ?_
  refine gs_put (ws' := w_X8_fail cI cZ cJ a_t a_t_parameters a_t_length a_t_newLength a_t_first a_t_now a_t_anew a_t_table a_t_inputs a_t_met a_t_any a_t_number a_t_outAny a_t_out a_t_at a_t_in a_t_back a_t_register a_t_output a_t_calls a_t_latest a_t_differ x1 t_own t_count t_tableSize t_given t_known t_news t_depth t_steps t_taken t_shown t_outcome) hC hW in_X8 tyX8_ok nmX8 0 0 rfl rfl (by decide) fl_X8_74 rfl rfl rfl (Nat.le_of_ble_eq_true rfl) rfl dX8_fail_2 (fun H locs hW => ?_)
  refine lv_iconst (v := 0) hx hb dX8_fail_5 (by decide) ?_
  obtain rfl := Option.some.inj hf
  exact gs_ri hC hW rfl dX8_fail_6

abbrev w_X8_forget (cI cZ cJ : ClassId) (a_t : Nat) (a_t_parameters : Nat) (a_t_length : Nat) (a_t_newLength : Nat) (a_t_first : Nat) (a_t_now : Nat) (a_t_anew : Nat) (a_t_table : Nat) (a_t_inputs : Nat) (a_t_met : Nat) (a_t_any : Nat) (a_t_number : Nat) (a_t_outAny : Nat) (a_t_out : Nat) (a_t_at : Nat) (a_t_in : Nat) (a_t_back : Nat) (a_t_register : Nat) (a_t_output : Nat) (a_t_calls : Nat) (a_t_latest : Nat) (a_t_differ : Nat) (t_code : Int32) (t_own : Int32) (t_count : Int32) (t_tableSize : Int32) (t_given : Int32) (t_known : Int32) (t_news : Int32) (t_depth : Int32) (t_steps : Int32) (t_taken : Int32) (t_shown : Int32) (t_outcome : Int32) : va_W := [(a_t, .inr (8, [.int t_code, .int t_own, .int t_count, .ref a_t_parameters, .ref a_t_length, .ref a_t_newLength, .ref a_t_first, .ref a_t_now, .ref a_t_anew, .int t_tableSize, .ref a_t_table, .int t_given, .ref a_t_inputs, .int t_known, .ref a_t_met, .ref a_t_any, .ref a_t_number, .int t_news, .ref a_t_outAny, .ref a_t_out, .int t_depth, .int t_steps, .int t_taken, .int t_shown, .ref a_t_at, .ref a_t_in, .ref a_t_back, .ref a_t_register, .ref a_t_output, .ref a_t_calls, .ref a_t_latest, .ref a_t_differ, .int t_outcome]))]
abbrev r_X8_forget : Room := { frames := 0, cells := 0, slots := 0, locals := 0 }
def f_X8_forget (t_own : Int32) (t_count : Int32) (t_known : Int32) : Option (Int32 × Int32) := some (t_own, 0)
set_option maxHeartbeats 4000000 in
set_option maxRecDepth 100000 in
theorem k_X8_forget (l : Launch) (tA : Nat) (dC : Nat → ClassId) (dI : Nat → Nat → Nat) (cI cZ cJ : ClassId) (a_t : Nat) (a_t_parameters : Nat) (a_t_length : Nat) (a_t_newLength : Nat) (a_t_first : Nat) (a_t_now : Nat) (a_t_anew : Nat) (a_t_table : Nat) (a_t_inputs : Nat) (a_t_met : Nat) (a_t_any : Nat) (a_t_number : Nat) (a_t_outAny : Nat) (a_t_out : Nat) (a_t_at : Nat) (a_t_in : Nat) (a_t_back : Nat) (a_t_register : Nat) (a_t_output : Nat) (a_t_calls : Nat) (a_t_latest : Nat) (a_t_differ : Nat) (t_code : Int32) (t_own : Int32) (t_count : Int32) (t_tableSize : Int32) (t_given : Int32) (t_known : Int32) (t_news : Int32) (t_depth : Int32) (t_steps : Int32) (t_taken : Int32) (t_shown : Int32) (t_outcome : Int32) (out : Int32 × Int32) (hf : f_X8_forget t_own t_count t_known = some out) : g_Mv l yX8_forget cX8_forget 1 (none : Option Jvm.ClassFile.FieldType) r_X8_forget tA dC dI cI cZ cJ [.ref a_t] (w_X8_forget cI cZ cJ a_t a_t_parameters a_t_length a_t_newLength a_t_first a_t_now a_t_anew a_t_table a_t_inputs a_t_met a_t_any a_t_number a_t_outAny a_t_out a_t_at a_t_in a_t_back a_t_register a_t_output a_t_calls a_t_latest a_t_differ t_code t_own t_count t_tableSize t_given t_known t_news t_depth t_steps t_taken t_shown t_outcome) (w_X8_forget cI cZ cJ a_t a_t_parameters a_t_length a_t_newLength a_t_first a_t_now a_t_anew a_t_table a_t_inputs a_t_met a_t_any a_t_number a_t_outAny a_t_out a_t_at a_t_in a_t_back a_t_register a_t_output a_t_calls a_t_latest a_t_differ t_code t_own out.1 t_tableSize t_given out.2 t_news t_depth t_steps t_taken t_shown t_outcome) := by
  unfold f_X8_forget at hf
  refine ge_v (by decide) (Nat.le_of_ble_eq_true rfl) (fun p e s m below meth c A H locs ls hC hW hl => ?_)
  have hC : g_C p s m meth c _ cX8_forget 1 (none : Option Jvm.ClassFile.FieldType) RX8 := hC
  have hx := hC.1
  have hb := hC.2.1
  have hown := hC.2.2.2.2.1
  have hts := hC.2.2.2.2.2.1
  have hl : lv_has ls 1 [(0, .ref a_t)] := hl
  refine lv_aload_n hx hb dX8_forget_0 rfl (lv_at hl 0 rfl) ?_
  refine lv_iconst (v := 0) hx hb dX8_forget_1 (by decide) ?_
  refine gs_put (ws' := w_X8_forget cI cZ cJ a_t a_t_parameters a_t_length a_t_newLength a_t_first a_t_now a_t_anew a_t_table a_t_inputs a_t_met a_t_any a_t_number a_t_outAny a_t_out a_t_at a_t_in a_t_back a_t_register a_t_output a_t_calls a_t_latest a_t_differ t_code t_own t_count t_tableSize t_given 0 t_news t_depth t_steps t_taken t_shown t_outcome) hC hW in_X8 tyX8_ok nmX8 0 13 rfl rfl (by decide) fl_X8_78 rfl (by decide) (by decide) (Nat.le_of_ble_eq_true rfl) rfl dX8_forget_2 (fun H locs hW => ?_)
  refine lv_aload_n hx hb dX8_forget_5 rfl (lv_at hl 0 rfl) ?_
  refine lv_aload_n hx hb dX8_forget_6 rfl (lv_at hl 0 rfl) ?_
  refine gs_get hC hW in_X8 0 1 rfl rfl (by decide) fl_X8_82 rfl dX8_forget_7 ?_
  refine gs_put (ws' := w_X8_forget cI cZ cJ a_t a_t_parameters a_t_length a_t_newLength a_t_first a_t_now a_t_anew a_t_table a_t_inputs a_t_met a_t_any a_t_number a_t_outAny a_t_out a_t_at a_t_in a_t_back a_t_register a_t_output a_t_calls a_t_latest a_t_differ t_code t_own t_own t_tableSize t_given 0 t_news t_depth t_steps t_taken t_shown t_outcome) hC hW in_X8 tyX8_ok nmX8 0 2 rfl rfl (by decide) fl_X8_85 rfl rfl rfl (Nat.le_of_ble_eq_true rfl) rfl dX8_forget_10 (fun H locs hW => ?_)
  obtain rfl := Option.some.inj hf
  exact gs_rv hC hW rfl dX8_forget_13

abbrev w_X8_function (cI cZ cJ : ClassId) (a_t : Nat) (a_t_parameters : Nat) (a_t_length : Nat) (a_t_newLength : Nat) (a_t_first : Nat) (a_t_now : Nat) (a_t_anew : Nat) (a_t_table : Nat) (a_t_inputs : Nat) (a_t_met : Nat) (a_t_any : Nat) (a_t_number : Nat) (a_t_outAny : Nat) (a_t_out : Nat) (a_t_at : Nat) (a_t_in : Nat) (a_t_back : Nat) (a_t_register : Nat) (a_t_output : Nat) (a_t_calls : Nat) (a_t_latest : Nat) (a_t_differ : Nat) (t_code : Int32) (t_own : Int32) (t_count : Int32) (t_tableSize : Int32) (t_given : Int32) (t_known : Int32) (t_news : Int32) (t_depth : Int32) (t_steps : Int32) (t_taken : Int32) (t_shown : Int32) (t_outcome : Int32) (t_parameters : Nat → Int32) (t_length : Nat → Int32) : va_W := [(a_t, .inr (8, [.int t_code, .int t_own, .int t_count, .ref a_t_parameters, .ref a_t_length, .ref a_t_newLength, .ref a_t_first, .ref a_t_now, .ref a_t_anew, .int t_tableSize, .ref a_t_table, .int t_given, .ref a_t_inputs, .int t_known, .ref a_t_met, .ref a_t_any, .ref a_t_number, .int t_news, .ref a_t_outAny, .ref a_t_out, .int t_depth, .int t_steps, .int t_taken, .int t_shown, .ref a_t_at, .ref a_t_in, .ref a_t_back, .ref a_t_register, .ref a_t_output, .ref a_t_calls, .ref a_t_latest, .ref a_t_differ, .int t_outcome])), (a_t_parameters, .inl (cI, 12, .inl t_parameters)), (a_t_length, .inl (cI, 12, .inl t_length))]
abbrev r_X8_function : Room := { frames := 1, cells := 0, slots := 0, locals := 20 }
def f_X8_function_39 (x1 : Int32) (z0 : Int32) (t_code : Int32) (t_own : Int32) (t_count : Int32) (t_known : Int32) (t_parameters : Nat → Int32) (t_length : Nat → Int32) : Option (Int32 × Int32 × Int32 × Int32 × Int32 × (Nat → Int32) × (Nat → Int32)) := if z0 ≤ 0 then (g_wr 12 t_parameters t_own x1).bind (fun s2 => (g_wr 12 t_length t_own 0).bind (fun s3 => (f_X8_forget (t_own + 1) t_count t_known).bind (fun o4 => some (((t_own + 1) - 1), z0, t_own + 1, o4.1, o4.2, s2, s3)))) else some (0, z0, t_own, t_count, t_known, t_parameters, t_length)
set_option maxHeartbeats 4000000 in
set_option maxRecDepth 100000 in
theorem b_X8_function_39 {p : Program} {l : Launch} {e : Env} {s : State} {m : MethodId} {args : Array Value} {below : List Frame} {meth : Method} {c : Code} {tA : Nat} {dC : Nat → ClassId} {dI : Nat → Nat → Nat} {cI cZ cJ : ClassId} {A : Nat → Prop} {a_t : Nat} {a_t_parameters : Nat} {a_t_length : Nat} {a_t_newLength : Nat} {a_t_first : Nat} {a_t_now : Nat} {a_t_anew : Nat} {a_t_table : Nat} {a_t_inputs : Nat} {a_t_met : Nat} {a_t_any : Nat} {a_t_number : Nat} {a_t_outAny : Nat} {a_t_out : Nat} {a_t_at : Nat} {a_t_in : Nat} {a_t_back : Nat} {a_t_register : Nat} {a_t_output : Nat} {a_t_calls : Nat} {a_t_latest : Nat} {a_t_differ : Nat} {x1 : Int32} {t_tableSize : Int32} {t_given : Int32} {t_news : Int32} {t_depth : Int32} {t_steps : Int32} {t_taken : Int32} {t_shown : Int32} {t_outcome : Int32} {z0 : Int32} {t_code : Int32} {t_own : Int32} {t_count : Int32} {t_known : Int32} {t_parameters : Nat → Int32} {t_length : Nat → Int32} {out : Int32 × Int32 × Int32 × Int32 × Int32 × (Nat → Int32) × (Nat → Int32)} (hC : g_C p s m meth c args cX8_function 2 (some .int) RX8) (hf : f_X8_function_39 x1 z0 t_code t_own t_count t_known t_parameters t_length = some out) {H : Heap} {locs : List Loc} {ls : Array Slot} (hW : g_W tA dC dI cI cZ cJ A s H locs (w_X8_function cI cZ cJ a_t a_t_parameters a_t_length a_t_newLength a_t_first a_t_now a_t_anew a_t_table a_t_inputs a_t_met a_t_any a_t_number a_t_outAny a_t_out a_t_at a_t_in a_t_back a_t_register a_t_output a_t_calls a_t_latest a_t_differ t_code t_own t_count t_tableSize t_given t_known t_news t_depth t_steps t_taken t_shown t_outcome t_parameters t_length)) (hl : lv_has ls 2 [(0, .ref a_t), (1, .int x1)]) : W p l e r_X8_function s m args below meth c H locs 0 0 (MQ below (g_Qi dC dI cI cZ cJ A (w_X8_function cI cZ cJ a_t a_t_parameters a_t_length a_t_newLength a_t_first a_t_now a_t_anew a_t_table a_t_inputs a_t_met a_t_any a_t_number a_t_outAny a_t_out a_t_at a_t_in a_t_back a_t_register a_t_output a_t_calls a_t_latest a_t_differ out.2.1 out.2.2.1 out.2.2.2.1 t_tableSize t_given out.2.2.2.2.1 t_news t_depth t_steps t_taken t_shown t_outcome out.2.2.2.2.2.1 out.2.2.2.2.2.2) out.1) args s 0 0 A) (F0 m 39 ls [.int z0, .ref a_t]) := by
  have hx := hC.1
  have hb := hC.2.1
  have hown := hC.2.2.2.2.1
  have hts := hC.2.2.2.2.2.1
  unfold f_X8_function_39 at hf
  refine gs_put (ws' := w_X8_function cI cZ cJ a_t a_t_parameters a_t_length a_t_newLength a_t_first a_t_now a_t_anew a_t_table a_t_inputs a_t_met a_t_any a_t_number a_t_outAny a_t_out a_t_at a_t_in a_t_back a_t_register a_t_output a_t_calls a_t_latest a_t_differ z0 t_own t_count t_tableSize t_given t_known t_news t_depth t_steps t_taken t_shown t_outcome t_parameters t_length) hC hW in_X8 tyX8_ok nmX8 0 0 rfl rfl (by decide) fl_X8_74 rfl rfl rfl (Nat.le_of_ble_eq_true rfl) rfl dX8_function_39 (fun H locs hW => ?_)
  refine lv_aload_n hx hb dX8_function_42 rfl (lv_at hl 0 rfl) ?_
  refine gs_get hC hW in_X8 0 0 rfl rfl (by decide) fl_X8_74 rfl dX8_function_43 ?_
  refine lv_if_le (tgt := 51) hx hb dX8_function_46 (by decide) (fun c1 => ?_) (fun c1 => ?_)
  · replace hf := (if_pos c1).symm.trans hf
    refine lv_aload_n hx hb dX8_function_51 rfl (lv_at hl 0 rfl) ?_
    refine gs_get hC hW in_X8 0 3 rfl rfl (by decide) fl_X8_7 rfl dX8_function_52 ?_
    refine lv_aload_n hx hb dX8_function_55 rfl (lv_at hl 0 rfl) ?_
    refine gs_get hC hW in_X8 0 1 rfl rfl (by decide) fl_X8_82 rfl dX8_function_56 ?_
    refine lv_iload_n hx hb dX8_function_59 rfl (lv_at hl 1 rfl) ?_
    obtain ⟨s2, h2, hf⟩ := g_bnd hf
    refine gs_iast (ws' := w_X8_function cI cZ cJ a_t a_t_parameters a_t_length a_t_newLength a_t_first a_t_now a_t_anew a_t_table a_t_inputs a_t_met a_t_any a_t_number a_t_outAny a_t_out a_t_at a_t_in a_t_back a_t_register a_t_output a_t_calls a_t_latest a_t_differ z0 t_own t_count t_tableSize t_given t_known t_news t_depth t_steps t_taken t_shown t_outcome s2 t_length) hC hW 1 h2 rfl rfl dX8_function_60 (fun H locs hW => ?_)
    refine lv_aload_n hx hb dX8_function_61 rfl (lv_at hl 0 rfl) ?_
    refine gs_get hC hW in_X8 0 4 rfl rfl (by decide) fl_X8_13 rfl dX8_function_62 ?_
    refine lv_aload_n hx hb dX8_function_65 rfl (lv_at hl 0 rfl) ?_
    refine gs_get hC hW in_X8 0 1 rfl rfl (by decide) fl_X8_82 rfl dX8_function_66 ?_
    refine lv_iconst (v := 0) hx hb dX8_function_69 (by decide) ?_
    obtain ⟨s3, h3, hf⟩ := g_bnd hf
    refine gs_iast (ws' := w_X8_function cI cZ cJ a_t a_t_parameters a_t_length a_t_newLength a_t_first a_t_now a_t_anew a_t_table a_t_inputs a_t_met a_t_any a_t_number a_t_outAny a_t_out a_t_at a_t_in a_t_back a_t_register a_t_output a_t_calls a_t_latest a_t_differ z0 t_own t_count t_tableSize t_given t_known t_news t_depth t_steps t_taken t_shown t_outcome s2 s3) hC hW 2 h3 rfl rfl dX8_function_70 (fun H locs hW => ?_)
    refine lv_aload_n hx hb dX8_function_71 rfl (lv_at hl 0 rfl) ?_
    refine lv_dup hx hb dX8_function_72 rfl ?_
    refine gs_get hC hW in_X8 0 1 rfl rfl (by decide) fl_X8_82 rfl dX8_function_73 ?_
    refine lv_iconst (v := 1) hx hb dX8_function_76 (by decide) ?_
    refine lv_iadd hx hb dX8_function_77 ?_
    refine gs_put (ws' := w_X8_function cI cZ cJ a_t a_t_parameters a_t_length a_t_newLength a_t_first a_t_now a_t_anew a_t_table a_t_inputs a_t_met a_t_any a_t_number a_t_outAny a_t_out a_t_at a_t_in a_t_back a_t_register a_t_output a_t_calls a_t_latest a_t_differ z0 (t_own + 1) t_count t_tableSize t_given t_known t_news t_depth t_steps t_taken t_shown t_outcome s2 s3) hC hW in_X8 tyX8_ok nmX8 0 1 rfl rfl (by decide) fl_X8_82 rfl rfl rfl (Nat.le_of_ble_eq_true rfl) rfl dX8_function_78 (fun H locs hW => ?_)
    refine lv_aload_n hx hb dX8_function_81 rfl (lv_at hl 0 rfl) ?_
    obtain ⟨o4, h4, hf⟩ := g_bnd hf
    refine gs_callVv (ws' := w_X8_function cI cZ cJ a_t a_t_parameters a_t_length a_t_newLength a_t_first a_t_now a_t_anew a_t_table a_t_inputs a_t_met a_t_any a_t_number a_t_outAny a_t_out a_t_at a_t_in a_t_back a_t_register a_t_output a_t_calls a_t_latest a_t_differ z0 (t_own + 1) o4.1 t_tableSize t_given o4.2 t_news t_depth t_steps t_taken t_shown t_outcome s2 s3) hC hW (k_X8_forget l tA dC dI cI cZ cJ a_t a_t_parameters a_t_length a_t_newLength a_t_first a_t_now a_t_anew a_t_table a_t_inputs a_t_met a_t_any a_t_number a_t_outAny a_t_out a_t_at a_t_in a_t_back a_t_register a_t_output a_t_calls a_t_latest a_t_differ z0 (t_own + 1) t_count t_tableSize t_given t_known t_news t_depth t_steps t_taken t_shown t_outcome _ h4) yk_X8_forget lk_X8_88 iv_X8_forget ⟨rfl, rfl⟩ ⟨Nat.le_of_ble_eq_true rfl, Nat.le_of_ble_eq_true rfl⟩ hl.1 0 rfl rfl [0] [1, 2] [2, 0, 1] rfl rfl rfl rfl (by decide) rfl rfl rfl rfl (Nat.le_of_ble_eq_true rfl) dX8_function_82 ⟨Nat.zero_le _, Nat.zero_le _⟩ (fun H locs hW => ?_)
    refine lv_aload_n hx hb dX8_function_85 rfl (lv_at hl 0 rfl) ?_
    refine gs_get hC hW in_X8 0 1 rfl rfl (by decide) fl_X8_82 rfl dX8_function_86 ?_
    refine lv_iconst (v := 1) hx hb dX8_function_89 (by decide) ?_
    refine lv_isub hx hb dX8_function_90 ?_
    obtain rfl := Option.some.inj hf
    exact gs_ri hC hW rfl dX8_function_91
  · replace hf := (if_neg c1).symm.trans hf
    refine lv_iconst (v := 0) hx hb dX8_function_49 (by decide) ?_
    obtain rfl := Option.some.inj hf
    exact gs_ri hC hW rfl dX8_function_50
def f_X8_function (x1 : Int32) (t_code : Int32) (t_own : Int32) (t_count : Int32) (t_known : Int32) (t_parameters : Nat → Int32) (t_length : Nat → Int32) : Option (Int32 × Int32 × Int32 × Int32 × Int32 × (Nat → Int32) × (Nat → Int32)) := if x1 < 0 then f_X8_function_39 x1 1 t_code t_own t_count t_known t_parameters t_length else if 3 < x1 then f_X8_function_39 x1 1 t_code t_own t_count t_known t_parameters t_length else if t_own = 0 then if x1 ≤ 0 then if t_own = 6 then f_X8_function_39 x1 2 t_code t_own t_count t_known t_parameters t_length else f_X8_function_39 x1 0 t_code t_own t_count t_known t_parameters t_length else f_X8_function_39 x1 1 t_code t_own t_count t_known t_parameters t_length else if t_own = 6 then f_X8_function_39 x1 2 t_code t_own t_count t_known t_parameters t_length else f_X8_function_39 x1 0 t_code t_own t_count t_known t_parameters t_length
set_option maxHeartbeats 4000000 in
set_option maxRecDepth 100000 in
theorem k_X8_function (l : Launch) (tA : Nat) (dC : Nat → ClassId) (dI : Nat → Nat → Nat) (cI cZ cJ : ClassId) (a_t : Nat) (a_t_parameters : Nat) (a_t_length : Nat) (a_t_newLength : Nat) (a_t_first : Nat) (a_t_now : Nat) (a_t_anew : Nat) (a_t_table : Nat) (a_t_inputs : Nat) (a_t_met : Nat) (a_t_any : Nat) (a_t_number : Nat) (a_t_outAny : Nat) (a_t_out : Nat) (a_t_at : Nat) (a_t_in : Nat) (a_t_back : Nat) (a_t_register : Nat) (a_t_output : Nat) (a_t_calls : Nat) (a_t_latest : Nat) (a_t_differ : Nat) (x1 : Int32) (t_code : Int32) (t_own : Int32) (t_count : Int32) (t_tableSize : Int32) (t_given : Int32) (t_known : Int32) (t_news : Int32) (t_depth : Int32) (t_steps : Int32) (t_taken : Int32) (t_shown : Int32) (t_outcome : Int32) (t_parameters : Nat → Int32) (t_length : Nat → Int32) (out : Int32 × Int32 × Int32 × Int32 × Int32 × (Nat → Int32) × (Nat → Int32)) (hf : f_X8_function x1 t_code t_own t_count t_known t_parameters t_length = some out) : g_Mi l yX8_function cX8_function 2 (some .int) r_X8_function tA dC dI cI cZ cJ [.ref a_t, .int x1] (w_X8_function cI cZ cJ a_t a_t_parameters a_t_length a_t_newLength a_t_first a_t_now a_t_anew a_t_table a_t_inputs a_t_met a_t_any a_t_number a_t_outAny a_t_out a_t_at a_t_in a_t_back a_t_register a_t_output a_t_calls a_t_latest a_t_differ t_code t_own t_count t_tableSize t_given t_known t_news t_depth t_steps t_taken t_shown t_outcome t_parameters t_length) (w_X8_function cI cZ cJ a_t a_t_parameters a_t_length a_t_newLength a_t_first a_t_now a_t_anew a_t_table a_t_inputs a_t_met a_t_any a_t_number a_t_outAny a_t_out a_t_at a_t_in a_t_back a_t_register a_t_output a_t_calls a_t_latest a_t_differ out.2.1 out.2.2.1 out.2.2.2.1 t_tableSize t_given out.2.2.2.2.1 t_news t_depth t_steps t_taken t_shown t_outcome out.2.2.2.2.2.1 out.2.2.2.2.2.2) out.1 := by
  unfold f_X8_function at hf
  refine ge_i (by decide) (Nat.le_of_ble_eq_true rfl) (fun p e s m below meth c A H locs ls hC hW hl => ?_)
  have hC : g_C p s m meth c _ cX8_function 2 (some .int) RX8 := hC
  have hx := hC.1
  have hb := hC.2.1
  have hown := hC.2.2.2.2.1
  have hts := hC.2.2.2.2.2.1
  have hl : lv_has ls 2 [(0, .ref a_t), (1, .int x1)] := hl
  refine lv_aload_n hx hb dX8_function_0 rfl (lv_at hl 0 rfl) ?_
  refine lv_iload_n hx hb dX8_function_1 rfl (lv_at hl 1 rfl) ?_
  refine lv_if_lt (tgt := 21) hx hb dX8_function_2 (by decide) (fun c5 => ?_) (fun c5 => ?_)
  · replace hf := (if_pos c5).symm.trans hf
    refine lv_iconst (v := 1) hx hb dX8_function_21 (by decide) ?_
    refine lv_goto (tgt := 39) hx hb dX8_function_22 (by decide) ?_
    exact b_X8_function_39 hC hf hW (lv_sub hl [0, 1] rfl)
  · replace hf := (if_neg c5).symm.trans hf
    refine lv_iload_n hx hb dX8_function_5 rfl (lv_at hl 1 rfl) ?_
    refine lv_iconst (v := 3) hx hb dX8_function_6 (by decide) ?_
    refine lv_icmp_gt (tgt := 21) hx hb dX8_function_7 (by decide) (fun c6 => ?_) (fun c6 => ?_)
    · replace hf := (if_pos c6).symm.trans hf
      refine lv_iconst (v := 1) hx hb dX8_function_21 (by decide) ?_
      refine lv_goto (tgt := 39) hx hb dX8_function_22 (by decide) ?_
      exact b_X8_function_39 hC hf hW (lv_sub hl [0, 1] rfl)
    · replace hf := (if_neg c6).symm.trans hf
      refine lv_aload_n hx hb dX8_function_10 rfl (lv_at hl 0 rfl) ?_
      refine gs_get hC hW in_X8 0 1 rfl rfl (by decide) fl_X8_82 rfl dX8_function_11 ?_
      refine lv_if_ne (tgt := 25) hx hb dX8_function_14 (by decide) (fun c7 => ?_) (fun c7 => ?_)
      · replace hf := (if_neg c7).symm.trans hf
        refine lv_aload_n hx hb dX8_function_25 rfl (lv_at hl 0 rfl) ?_
        refine gs_get hC hW in_X8 0 1 rfl rfl (by decide) fl_X8_82 rfl dX8_function_26 ?_
        refine lv_bipush (v := 6) hx hb dX8_function_29 (by decide) ?_
        refine lv_icmp_ne (tgt := 38) hx hb dX8_function_31 (by decide) (fun c8 => ?_) (fun c8 => ?_)
        · replace hf := (if_neg c8).symm.trans hf
          refine lv_iconst (v := 0) hx hb dX8_function_38 (by decide) ?_
          exact b_X8_function_39 hC hf hW (lv_sub hl [0, 1] rfl)
        · replace hf := (if_pos c8).symm.trans hf
          refine lv_iconst (v := 2) hx hb dX8_function_34 (by decide) ?_
          refine lv_goto (tgt := 39) hx hb dX8_function_35 (by decide) ?_
          exact b_X8_function_39 hC hf hW (lv_sub hl [0, 1] rfl)
      · replace hf := (if_pos c7).symm.trans hf
        refine lv_iload_n hx hb dX8_function_17 rfl (lv_at hl 1 rfl) ?_
        refine lv_if_le (tgt := 25) hx hb dX8_function_18 (by decide) (fun c9 => ?_) (fun c9 => ?_)
        · replace hf := (if_pos c9).symm.trans hf
          refine lv_aload_n hx hb dX8_function_25 rfl (lv_at hl 0 rfl) ?_
          refine gs_get hC hW in_X8 0 1 rfl rfl (by decide) fl_X8_82 rfl dX8_function_26 ?_
          refine lv_bipush (v := 6) hx hb dX8_function_29 (by decide) ?_
          refine lv_icmp_ne (tgt := 38) hx hb dX8_function_31 (by decide) (fun c10 => ?_) (fun c10 => ?_)
          · replace hf := (if_neg c10).symm.trans hf
            refine lv_iconst (v := 0) hx hb dX8_function_38 (by decide) ?_
            exact b_X8_function_39 hC hf hW (lv_sub hl [0, 1] rfl)
          · replace hf := (if_pos c10).symm.trans hf
            refine lv_iconst (v := 2) hx hb dX8_function_34 (by decide) ?_
            refine lv_goto (tgt := 39) hx hb dX8_function_35 (by decide) ?_
            exact b_X8_function_39 hC hf hW (lv_sub hl [0, 1] rfl)
        · replace hf := (if_neg c9).symm.trans hf
          refine lv_iconst (v := 1) hx hb dX8_function_21 (by decide) ?_
          refine lv_goto (tgt := 39) hx hb dX8_function_22 (by decide) ?_
          exact b_X8_function_39 hC hf hW (lv_sub hl [0, 1] rfl)

abbrev w_X8_isFunction (cI cZ cJ : ClassId) (a_t : Nat) (a_t_parameters : Nat) (a_t_length : Nat) (a_t_newLength : Nat) (a_t_first : Nat) (a_t_now : Nat) (a_t_anew : Nat) (a_t_table : Nat) (a_t_inputs : Nat) (a_t_met : Nat) (a_t_any : Nat) (a_t_number : Nat) (a_t_outAny : Nat) (a_t_out : Nat) (a_t_at : Nat) (a_t_in : Nat) (a_t_back : Nat) (a_t_register : Nat) (a_t_output : Nat) (a_t_calls : Nat) (a_t_latest : Nat) (a_t_differ : Nat) (t_code : Int32) (t_own : Int32) (t_count : Int32) (t_tableSize : Int32) (t_given : Int32) (t_known : Int32) (t_news : Int32) (t_depth : Int32) (t_steps : Int32) (t_taken : Int32) (t_shown : Int32) (t_outcome : Int32) : va_W := [(a_t, .inr (8, [.int t_code, .int t_own, .int t_count, .ref a_t_parameters, .ref a_t_length, .ref a_t_newLength, .ref a_t_first, .ref a_t_now, .ref a_t_anew, .int t_tableSize, .ref a_t_table, .int t_given, .ref a_t_inputs, .int t_known, .ref a_t_met, .ref a_t_any, .ref a_t_number, .int t_news, .ref a_t_outAny, .ref a_t_out, .int t_depth, .int t_steps, .int t_taken, .int t_shown, .ref a_t_at, .ref a_t_in, .ref a_t_back, .ref a_t_register, .ref a_t_output, .ref a_t_calls, .ref a_t_latest, .ref a_t_differ, .int t_outcome]))]
abbrev r_X8_isFunction : Room := { frames := 0, cells := 0, slots := 0, locals := 0 }
def f_X8_isFunction (x1 : Int32) (t_own : Int32) : Option (Int32) := if x1 < 0 then some 0 else if t_own ≤ x1 then some 0 else some 1
set_option maxHeartbeats 4000000 in
set_option maxRecDepth 100000 in
theorem k_X8_isFunction (l : Launch) (tA : Nat) (dC : Nat → ClassId) (dI : Nat → Nat → Nat) (cI cZ cJ : ClassId) (a_t : Nat) (a_t_parameters : Nat) (a_t_length : Nat) (a_t_newLength : Nat) (a_t_first : Nat) (a_t_now : Nat) (a_t_anew : Nat) (a_t_table : Nat) (a_t_inputs : Nat) (a_t_met : Nat) (a_t_any : Nat) (a_t_number : Nat) (a_t_outAny : Nat) (a_t_out : Nat) (a_t_at : Nat) (a_t_in : Nat) (a_t_back : Nat) (a_t_register : Nat) (a_t_output : Nat) (a_t_calls : Nat) (a_t_latest : Nat) (a_t_differ : Nat) (x1 : Int32) (t_code : Int32) (t_own : Int32) (t_count : Int32) (t_tableSize : Int32) (t_given : Int32) (t_known : Int32) (t_news : Int32) (t_depth : Int32) (t_steps : Int32) (t_taken : Int32) (t_shown : Int32) (t_outcome : Int32) (out : Int32) (hf : f_X8_isFunction x1 t_own = some out) : g_Mi l yX8_isFunction cX8_isFunction 2 (some .boolean) r_X8_isFunction tA dC dI cI cZ cJ [.ref a_t, .int x1] (w_X8_isFunction cI cZ cJ a_t a_t_parameters a_t_length a_t_newLength a_t_first a_t_now a_t_anew a_t_table a_t_inputs a_t_met a_t_any a_t_number a_t_outAny a_t_out a_t_at a_t_in a_t_back a_t_register a_t_output a_t_calls a_t_latest a_t_differ t_code t_own t_count t_tableSize t_given t_known t_news t_depth t_steps t_taken t_shown t_outcome) (w_X8_isFunction cI cZ cJ a_t a_t_parameters a_t_length a_t_newLength a_t_first a_t_now a_t_anew a_t_table a_t_inputs a_t_met a_t_any a_t_number a_t_outAny a_t_out a_t_at a_t_in a_t_back a_t_register a_t_output a_t_calls a_t_latest a_t_differ t_code t_own t_count t_tableSize t_given t_known t_news t_depth t_steps t_taken t_shown t_outcome) out := by
  unfold f_X8_isFunction at hf
  refine ge_i (by decide) (Nat.le_of_ble_eq_true rfl) (fun p e s m below meth c A H locs ls hC hW hl => ?_)
  have hC : g_C p s m meth c _ cX8_isFunction 2 (some .boolean) RX8 := hC
  have hx := hC.1
  have hb := hC.2.1
  have hown := hC.2.2.2.2.1
  have hts := hC.2.2.2.2.2.1
  have hl : lv_has ls 2 [(0, .ref a_t), (1, .int x1)] := hl
  refine lv_iload_n hx hb dX8_isFunction_0 rfl (lv_at hl 1 rfl) ?_
  refine lv_if_lt (tgt := 16) hx hb dX8_isFunction_1 (by decide) (fun c1 => ?_) (fun c1 => ?_)
  · replace hf := (if_pos c1).symm.trans hf
    refine lv_iconst (v := 0) hx hb dX8_isFunction_16 (by decide) ?_
    obtain rfl := Option.some.inj hf
    exact gs_rz hC hW rfl g_n0 dX8_isFunction_17
  · replace hf := (if_neg c1).symm.trans hf
    refine lv_iload_n hx hb dX8_isFunction_4 rfl (lv_at hl 1 rfl) ?_
    refine lv_aload_n hx hb dX8_isFunction_5 rfl (lv_at hl 0 rfl) ?_
    refine gs_get hC hW in_X8 0 1 rfl rfl (by decide) fl_X8_82 rfl dX8_isFunction_6 ?_
    refine lv_icmp_ge (tgt := 16) hx hb dX8_isFunction_9 (by decide) (fun c2 => ?_) (fun c2 => ?_)
    · replace hf := (if_pos c2).symm.trans hf
      refine lv_iconst (v := 0) hx hb dX8_isFunction_16 (by decide) ?_
      obtain rfl := Option.some.inj hf
      exact gs_rz hC hW rfl g_n0 dX8_isFunction_17
    · replace hf := (if_neg c2).symm.trans hf
      refine lv_iconst (v := 1) hx hb dX8_isFunction_12 (by decide) ?_
      refine lv_goto (tgt := 17) hx hb dX8_isFunction_13 (by decide) ?_
      obtain rfl := Option.some.inj hf
      exact gs_rz hC hW rfl g_n1 dX8_isFunction_17

abbrev w_X8_isOperand (cI cZ cJ : ClassId) : va_W := []
abbrev r_X8_isOperand : Room := { frames := 0, cells := 0, slots := 0, locals := 0 }
def f_X8_isOperand (x0 : Int32) : Option (Int32) := if (x0 &&& 7) = 6 then some 0 else some 1
set_option maxHeartbeats 4000000 in
set_option maxRecDepth 100000 in
theorem k_X8_isOperand (l : Launch) (tA : Nat) (dC : Nat → ClassId) (dI : Nat → Nat → Nat) (cI cZ cJ : ClassId) (x0 : Int32) (out : Int32) (hf : f_X8_isOperand x0 = some out) : g_Mi l yX8_isOperand cX8_isOperand 1 (some .boolean) r_X8_isOperand tA dC dI cI cZ cJ [.int x0] (w_X8_isOperand cI cZ cJ ) (w_X8_isOperand cI cZ cJ ) out := by
  unfold f_X8_isOperand at hf
  refine ge_i (by decide) (Nat.le_of_ble_eq_true rfl) (fun p e s m below meth c A H locs ls hC hW hl => ?_)
  have hC : g_C p s m meth c _ cX8_isOperand 1 (some .boolean) RX8 := hC
  have hx := hC.1
  have hb := hC.2.1
  have hown := hC.2.2.2.2.1
  have hts := hC.2.2.2.2.2.1
  have hl : lv_has ls 1 [(0, .int x0)] := hl
  refine lv_iload_n hx hb dX8_isOperand_0 rfl (lv_at hl 0 rfl) ?_
  refine lv_bipush (v := 7) hx hb dX8_isOperand_1 (by decide) ?_
  refine lv_iand hx hb dX8_isOperand_3 ?_
  refine lv_bipush (v := 6) hx hb dX8_isOperand_4 (by decide) ?_
  refine lv_icmp_eq (tgt := 13) hx hb dX8_isOperand_6 (by decide) (fun c1 => ?_) (fun c1 => ?_)
  · replace hf := (if_pos c1).symm.trans hf
    refine lv_iconst (v := 0) hx hb dX8_isOperand_13 (by decide) ?_
    obtain rfl := Option.some.inj hf
    exact gs_rz hC hW rfl g_n0 dX8_isOperand_14
  · replace hf := (if_neg c1).symm.trans hf
    refine lv_iconst (v := 1) hx hb dX8_isOperand_9 (by decide) ?_
    refine lv_goto (tgt := 14) hx hb dX8_isOperand_10 (by decide) ?_
    obtain rfl := Option.some.inj hf
    exact gs_rz hC hW rfl g_n1 dX8_isOperand_14

abbrev w_X8_uses (cI cZ cJ : ClassId) : va_W := []
abbrev r_X8_uses : Room := { frames := 0, cells := 0, slots := 0, locals := 0 }
def f_X8_uses (x0 : Int32) : Option (Int32) := if x0 = 0 then some 1 else if x0 = 1 then some 2 else if x0 = 2 then some 2 else if x0 = 3 then some 2 else if x0 = 4 then some 2 else if x0 = 6 then some 1 else if x0 = 7 then some 1 else if x0 = 9 then some 1 else if x0 = 10 then some 3 else if x0 = 11 then some 3 else some 0
set_option maxHeartbeats 4000000 in
set_option maxRecDepth 100000 in
theorem k_X8_uses (l : Launch) (tA : Nat) (dC : Nat → ClassId) (dI : Nat → Nat → Nat) (cI cZ cJ : ClassId) (x0 : Int32) (out : Int32) (hf : f_X8_uses x0 = some out) : g_Mi l yX8_uses cX8_uses 1 (some .int) r_X8_uses tA dC dI cI cZ cJ [.int x0] (w_X8_uses cI cZ cJ ) (w_X8_uses cI cZ cJ ) out := by
  unfold f_X8_uses at hf
  refine ge_i (by decide) (Nat.le_of_ble_eq_true rfl) (fun p e s m below meth c A H locs ls hC hW hl => ?_)
  have hC : g_C p s m meth c _ cX8_uses 1 (some .int) RX8 := hC
  have hx := hC.1
  have hb := hC.2.1
  have hown := hC.2.2.2.2.1
  have hts := hC.2.2.2.2.2.1
  have hl : lv_has ls 1 [(0, .int x0)] := hl
  refine lv_iload_n hx hb dX8_uses_0 rfl (lv_at hl 0 rfl) ?_
  by_cases c1 : x0 = 0
  · replace hf := (if_pos c1).symm.trans hf
    refine lv_tableIn (off := 63) (tgt := 64) hx hb dX8_uses_1 (by rw [c1]; decide) (by rw [c1]; decide) (by rw [c1]; decide) (by decide) ?_
    refine lv_iconst (v := 1) hx hb dX8_uses_64 (by decide) ?_
    obtain rfl := Option.some.inj hf
    exact gs_ri hC hW rfl dX8_uses_65
  · replace hf := (if_neg c1).symm.trans hf
    by_cases c2 : x0 = 1
    · replace hf := (if_pos c2).symm.trans hf
      refine lv_tableIn (off := 65) (tgt := 66) hx hb dX8_uses_1 (by rw [c2]; decide) (by rw [c2]; decide) (by rw [c2]; decide) (by decide) ?_
      refine lv_iconst (v := 2) hx hb dX8_uses_66 (by decide) ?_
      obtain rfl := Option.some.inj hf
      exact gs_ri hC hW rfl dX8_uses_67
    · replace hf := (if_neg c2).symm.trans hf
      by_cases c3 : x0 = 2
      · replace hf := (if_pos c3).symm.trans hf
        refine lv_tableIn (off := 65) (tgt := 66) hx hb dX8_uses_1 (by rw [c3]; decide) (by rw [c3]; decide) (by rw [c3]; decide) (by decide) ?_
        refine lv_iconst (v := 2) hx hb dX8_uses_66 (by decide) ?_
        obtain rfl := Option.some.inj hf
        exact gs_ri hC hW rfl dX8_uses_67
      · replace hf := (if_neg c3).symm.trans hf
        by_cases c4 : x0 = 3
        · replace hf := (if_pos c4).symm.trans hf
          refine lv_tableIn (off := 65) (tgt := 66) hx hb dX8_uses_1 (by rw [c4]; decide) (by rw [c4]; decide) (by rw [c4]; decide) (by decide) ?_
          refine lv_iconst (v := 2) hx hb dX8_uses_66 (by decide) ?_
          obtain rfl := Option.some.inj hf
          exact gs_ri hC hW rfl dX8_uses_67
        · replace hf := (if_neg c4).symm.trans hf
          by_cases c5 : x0 = 4
          · replace hf := (if_pos c5).symm.trans hf
            refine lv_tableIn (off := 65) (tgt := 66) hx hb dX8_uses_1 (by rw [c5]; decide) (by rw [c5]; decide) (by rw [c5]; decide) (by decide) ?_
            refine lv_iconst (v := 2) hx hb dX8_uses_66 (by decide) ?_
            obtain rfl := Option.some.inj hf
            exact gs_ri hC hW rfl dX8_uses_67
          · replace hf := (if_neg c5).symm.trans hf
            by_cases c6 : x0 = 6
            · replace hf := (if_pos c6).symm.trans hf
              refine lv_tableIn (off := 63) (tgt := 64) hx hb dX8_uses_1 (by rw [c6]; decide) (by rw [c6]; decide) (by rw [c6]; decide) (by decide) ?_
              refine lv_iconst (v := 1) hx hb dX8_uses_64 (by decide) ?_
              obtain rfl := Option.some.inj hf
              exact gs_ri hC hW rfl dX8_uses_65
            · replace hf := (if_neg c6).symm.trans hf
              by_cases c7 : x0 = 7
              · replace hf := (if_pos c7).symm.trans hf
                refine lv_tableIn (off := 63) (tgt := 64) hx hb dX8_uses_1 (by rw [c7]; decide) (by rw [c7]; decide) (by rw [c7]; decide) (by decide) ?_
                refine lv_iconst (v := 1) hx hb dX8_uses_64 (by decide) ?_
                obtain rfl := Option.some.inj hf
                exact gs_ri hC hW rfl dX8_uses_65
              · replace hf := (if_neg c7).symm.trans hf
                by_cases c8 : x0 = 9
                · replace hf := (if_pos c8).symm.trans hf
                  refine lv_tableIn (off := 63) (tgt := 64) hx hb dX8_uses_1 (by rw [c8]; decide) (by rw [c8]; decide) (by rw [c8]; decide) (by decide) ?_
                  refine lv_iconst (v := 1) hx hb dX8_uses_64 (by decide) ?_
                  obtain rfl := Option.some.inj hf
                  exact gs_ri hC hW rfl dX8_uses_65
                · replace hf := (if_neg c8).symm.trans hf
                  by_cases c9 : x0 = 10
                  · replace hf := (if_pos c9).symm.trans hf
                    refine lv_tableIn (off := 67) (tgt := 68) hx hb dX8_uses_1 (by rw [c9]; decide) (by rw [c9]; decide) (by rw [c9]; decide) (by decide) ?_
                    refine lv_iconst (v := 3) hx hb dX8_uses_68 (by decide) ?_
                    obtain rfl := Option.some.inj hf
                    exact gs_ri hC hW rfl dX8_uses_69
                  · replace hf := (if_neg c9).symm.trans hf
                    by_cases c10 : x0 = 11
                    · replace hf := (if_pos c10).symm.trans hf
                      refine lv_tableIn (off := 67) (tgt := 68) hx hb dX8_uses_1 (by rw [c10]; decide) (by rw [c10]; decide) (by rw [c10]; decide) (by decide) ?_
                      refine lv_iconst (v := 3) hx hb dX8_uses_68 (by decide) ?_
                      obtain rfl := Option.some.inj hf
                      exact gs_ri hC hW rfl dX8_uses_69
                    · replace hf := (if_neg c10).symm.trans hf
                      refine gs_tblD (n := 12) (tgt := 70) hx hb dX8_uses_1 (by decide) (by decide) (fun j hj h9 => ?_) ?_
                      · rcases (show j = 0 ∨ j = 1 ∨ j = 2 ∨ j = 3 ∨ j = 4 ∨ j = 5 ∨ j = 6 ∨ j = 7 ∨ j = 8 ∨ j = 9 ∨ j = 10 ∨ j = 11 by omega) with rfl | rfl | rfl | rfl | rfl | rfl | rfl | rfl | rfl | rfl | rfl | rfl
                        · exact absurd (g_ti (k := 0) h9 (by decide)) c1
                        · exact absurd (g_ti (k := 1) h9 (by decide)) c2
                        · exact absurd (g_ti (k := 2) h9 (by decide)) c3
                        · exact absurd (g_ti (k := 3) h9 (by decide)) c4
                        · exact absurd (g_ti (k := 4) h9 (by decide)) c5
                        · decide
                        · exact absurd (g_ti (k := 6) h9 (by decide)) c6
                        · exact absurd (g_ti (k := 7) h9 (by decide)) c7
                        · decide
                        · exact absurd (g_ti (k := 9) h9 (by decide)) c8
                        · exact absurd (g_ti (k := 10) h9 (by decide)) c9
                        · exact absurd (g_ti (k := 11) h9 (by decide)) c10
                      · refine lv_iconst (v := 0) hx hb dX8_uses_70 (by decide) ?_
                        obtain rfl := Option.some.inj hf
                        exact gs_ri hC hW rfl dX8_uses_71

abbrev w_X8_isGood (cI cZ cJ : ClassId) (a_t : Nat) (a_t_parameters : Nat) (a_t_length : Nat) (a_t_newLength : Nat) (a_t_first : Nat) (a_t_now : Nat) (a_t_anew : Nat) (a_t_table : Nat) (a_t_inputs : Nat) (a_t_met : Nat) (a_t_any : Nat) (a_t_number : Nat) (a_t_outAny : Nat) (a_t_out : Nat) (a_t_at : Nat) (a_t_in : Nat) (a_t_back : Nat) (a_t_register : Nat) (a_t_output : Nat) (a_t_calls : Nat) (a_t_latest : Nat) (a_t_differ : Nat) (t_code : Int32) (t_own : Int32) (t_count : Int32) (t_tableSize : Int32) (t_given : Int32) (t_known : Int32) (t_news : Int32) (t_depth : Int32) (t_steps : Int32) (t_taken : Int32) (t_shown : Int32) (t_outcome : Int32) : va_W := [(a_t, .inr (8, [.int t_code, .int t_own, .int t_count, .ref a_t_parameters, .ref a_t_length, .ref a_t_newLength, .ref a_t_first, .ref a_t_now, .ref a_t_anew, .int t_tableSize, .ref a_t_table, .int t_given, .ref a_t_inputs, .int t_known, .ref a_t_met, .ref a_t_any, .ref a_t_number, .int t_news, .ref a_t_outAny, .ref a_t_out, .int t_depth, .int t_steps, .int t_taken, .int t_shown, .ref a_t_at, .ref a_t_in, .ref a_t_back, .ref a_t_register, .ref a_t_output, .ref a_t_calls, .ref a_t_latest, .ref a_t_differ, .int t_outcome]))]
abbrev r_X8_isGood : Room := { frames := 1, cells := 0, slots := 0, locals := 21 }
def f_X8_isGood_67 (x1 : Int32) (x2 : Int32) (x3 : Int32) (x4 : Int32) (x5 : Int32) (x6 : Int32) (t_own : Int32) : Option (Int32) := if x1 = 7 then if x3 < 0 then some 0 else if 16 < x3 then some 0 else some 1 else if x1 = 8 then if x3 < 0 then some 0 else if 16 < x3 then some 0 else some 1 else if x1 = 10 then (f_X8_isFunction x3 t_own).bind (fun o9 => (g_zr o9).bind (fun v10 => some v10)) else if x1 = 11 then (f_X8_isOperand x3).bind (fun o7 => if o7 = 0 then some 0 else some 1) else some 1
set_option maxHeartbeats 4000000 in
set_option maxRecDepth 100000 in
theorem b_X8_isGood_67 {p : Program} {l : Launch} {e : Env} {s : State} {m : MethodId} {args : Array Value} {below : List Frame} {meth : Method} {c : Code} {tA : Nat} {dC : Nat → ClassId} {dI : Nat → Nat → Nat} {cI cZ cJ : ClassId} {A : Nat → Prop} {a_t : Nat} {a_t_parameters : Nat} {a_t_length : Nat} {a_t_newLength : Nat} {a_t_first : Nat} {a_t_now : Nat} {a_t_anew : Nat} {a_t_table : Nat} {a_t_inputs : Nat} {a_t_met : Nat} {a_t_any : Nat} {a_t_number : Nat} {a_t_outAny : Nat} {a_t_out : Nat} {a_t_at : Nat} {a_t_in : Nat} {a_t_back : Nat} {a_t_register : Nat} {a_t_output : Nat} {a_t_calls : Nat} {a_t_latest : Nat} {a_t_differ : Nat} {x1 : Int32} {x2 : Int32} {x3 : Int32} {x4 : Int32} {x5 : Int32} {x6 : Int32} {t_own : Int32} {t_code : Int32} {t_count : Int32} {t_tableSize : Int32} {t_given : Int32} {t_known : Int32} {t_news : Int32} {t_depth : Int32} {t_steps : Int32} {t_taken : Int32} {t_shown : Int32} {t_outcome : Int32} {out : Int32} (hC : g_C p s m meth c args cX8_isGood 8 (some .boolean) RX8) (hf : f_X8_isGood_67 x1 x2 x3 x4 x5 x6 t_own = some out) {H : Heap} {locs : List Loc} {ls : Array Slot} (hW : g_W tA dC dI cI cZ cJ A s H locs (w_X8_isGood cI cZ cJ a_t a_t_parameters a_t_length a_t_newLength a_t_first a_t_now a_t_anew a_t_table a_t_inputs a_t_met a_t_any a_t_number a_t_outAny a_t_out a_t_at a_t_in a_t_back a_t_register a_t_output a_t_calls a_t_latest a_t_differ t_code t_own t_count t_tableSize t_given t_known t_news t_depth t_steps t_taken t_shown t_outcome)) (hl : lv_has ls 8 [(0, .ref a_t), (1, .int x1), (3, .int x3)]) : W p l e r_X8_isGood s m args below meth c H locs 0 0 (MQ below (g_Qi dC dI cI cZ cJ A (w_X8_isGood cI cZ cJ a_t a_t_parameters a_t_length a_t_newLength a_t_first a_t_now a_t_anew a_t_table a_t_inputs a_t_met a_t_any a_t_number a_t_outAny a_t_out a_t_at a_t_in a_t_back a_t_register a_t_output a_t_calls a_t_latest a_t_differ t_code t_own t_count t_tableSize t_given t_known t_news t_depth t_steps t_taken t_shown t_outcome) out) args s 0 0 A) (F0 m 67 ls []) := by
  have hx := hC.1
  have hb := hC.2.1
  have hown := hC.2.2.2.2.1
  have hts := hC.2.2.2.2.2.1
  unfold f_X8_isGood_67 at hf
  refine lv_iload_n hx hb dX8_isGood_67 rfl (lv_at hl 1 rfl) ?_
  refine lv_bipush (v := 7) hx hb dX8_isGood_68 (by decide) ?_
  refine lv_icmp_eq (tgt := 79) hx hb dX8_isGood_70 (by decide) (fun c1 => ?_) (fun c1 => ?_)
  · replace hf := (if_pos c1).symm.trans hf
    refine lv_iload_n hx hb dX8_isGood_79 rfl (lv_at hl 2 rfl) ?_
    refine lv_if_lt (tgt := 93) hx hb dX8_isGood_80 (by decide) (fun c2 => ?_) (fun c2 => ?_)
    · replace hf := (if_pos c2).symm.trans hf
      refine lv_iconst (v := 0) hx hb dX8_isGood_93 (by decide) ?_
      obtain rfl := Option.some.inj hf
      exact gs_rz hC hW rfl g_n0 dX8_isGood_94
    · replace hf := (if_neg c2).symm.trans hf
      refine lv_iload_n hx hb dX8_isGood_83 rfl (lv_at hl 2 rfl) ?_
      refine lv_bipush (v := 16) hx hb dX8_isGood_84 (by decide) ?_
      refine lv_icmp_gt (tgt := 93) hx hb dX8_isGood_86 (by decide) (fun c3 => ?_) (fun c3 => ?_)
      · replace hf := (if_pos c3).symm.trans hf
        refine lv_iconst (v := 0) hx hb dX8_isGood_93 (by decide) ?_
        obtain rfl := Option.some.inj hf
        exact gs_rz hC hW rfl g_n0 dX8_isGood_94
      · replace hf := (if_neg c3).symm.trans hf
        refine lv_iconst (v := 1) hx hb dX8_isGood_89 (by decide) ?_
        refine lv_goto (tgt := 94) hx hb dX8_isGood_90 (by decide) ?_
        obtain rfl := Option.some.inj hf
        exact gs_rz hC hW rfl g_n1 dX8_isGood_94
  · replace hf := (if_neg c1).symm.trans hf
    refine lv_iload_n hx hb dX8_isGood_73 rfl (lv_at hl 1 rfl) ?_
    refine lv_bipush (v := 8) hx hb dX8_isGood_74 (by decide) ?_
    refine lv_icmp_ne (tgt := 95) hx hb dX8_isGood_76 (by decide) (fun c4 => ?_) (fun c4 => ?_)
    · replace hf := (if_neg c4).symm.trans hf
      refine lv_iload_n hx hb dX8_isGood_95 rfl (lv_at hl 1 rfl) ?_
      refine lv_bipush (v := 10) hx hb dX8_isGood_96 (by decide) ?_
      refine lv_icmp_ne (tgt := 109) hx hb dX8_isGood_98 (by decide) (fun c5 => ?_) (fun c5 => ?_)
      · replace hf := (if_neg c5).symm.trans hf
        refine lv_iload_n hx hb dX8_isGood_109 rfl (lv_at hl 1 rfl) ?_
        refine lv_bipush (v := 11) hx hb dX8_isGood_110 (by decide) ?_
        refine lv_icmp_ne (tgt := 122) hx hb dX8_isGood_112 (by decide) (fun c6 => ?_) (fun c6 => ?_)
        · replace hf := (if_neg c6).symm.trans hf
          refine lv_iconst (v := 1) hx hb dX8_isGood_122 (by decide) ?_
          refine lv_goto (tgt := 127) hx hb dX8_isGood_123 (by decide) ?_
          obtain rfl := Option.some.inj hf
          exact gs_rz hC hW rfl g_n1 dX8_isGood_127
        · replace hf := (if_pos c6).symm.trans hf
          refine lv_iload_n hx hb dX8_isGood_115 rfl (lv_at hl 2 rfl) ?_
          obtain ⟨o7, h7, hf⟩ := g_bnd hf
          refine gs_callSi (ws' := w_X8_isGood cI cZ cJ a_t a_t_parameters a_t_length a_t_newLength a_t_first a_t_now a_t_anew a_t_table a_t_inputs a_t_met a_t_any a_t_number a_t_outAny a_t_out a_t_at a_t_in a_t_back a_t_register a_t_output a_t_calls a_t_latest a_t_differ t_code t_own t_count t_tableSize t_given t_known t_news t_depth t_steps t_taken t_shown t_outcome) hC hW (k_X8_isOperand l tA dC dI cI cZ cJ x3 _ h7) yk_X8_isOperand lk_X8_95 is_X8_isOperand ⟨rfl, rfl⟩ ⟨Nat.le_of_ble_eq_true rfl, Nat.le_of_ble_eq_true rfl⟩ hl.1 [] [0] [0] rfl rfl rfl rfl (by decide) rfl rfl rfl rfl (Nat.le_of_ble_eq_true rfl) dX8_isGood_116 ⟨Nat.zero_le _, Nat.zero_le _⟩ (fun H locs hW => ?_)
          refine lv_if_eq (tgt := 126) hx hb dX8_isGood_119 (by decide) (fun c8 => ?_) (fun c8 => ?_)
          · replace hf := (if_pos c8).symm.trans hf
            refine lv_iconst (v := 0) hx hb dX8_isGood_126 (by decide) ?_
            obtain rfl := Option.some.inj hf
            exact gs_rz hC hW rfl g_n0 dX8_isGood_127
          · replace hf := (if_neg c8).symm.trans hf
            refine lv_iconst (v := 1) hx hb dX8_isGood_122 (by decide) ?_
            refine lv_goto (tgt := 127) hx hb dX8_isGood_123 (by decide) ?_
            obtain rfl := Option.some.inj hf
            exact gs_rz hC hW rfl g_n1 dX8_isGood_127
      · replace hf := (if_pos c5).symm.trans hf
        refine lv_aload_n hx hb dX8_isGood_101 rfl (lv_at hl 0 rfl) ?_
        refine lv_iload_n hx hb dX8_isGood_102 rfl (lv_at hl 2 rfl) ?_
        obtain ⟨o9, h9, hf⟩ := g_bnd hf
        refine gs_callVi (ws' := w_X8_isGood cI cZ cJ a_t a_t_parameters a_t_length a_t_newLength a_t_first a_t_now a_t_anew a_t_table a_t_inputs a_t_met a_t_any a_t_number a_t_outAny a_t_out a_t_at a_t_in a_t_back a_t_register a_t_output a_t_calls a_t_latest a_t_differ t_code t_own t_count t_tableSize t_given t_known t_news t_depth t_steps t_taken t_shown t_outcome) hC hW (k_X8_isFunction l tA dC dI cI cZ cJ a_t a_t_parameters a_t_length a_t_newLength a_t_first a_t_now a_t_anew a_t_table a_t_inputs a_t_met a_t_any a_t_number a_t_outAny a_t_out a_t_at a_t_in a_t_back a_t_register a_t_output a_t_calls a_t_latest a_t_differ x3 t_code t_own t_count t_tableSize t_given t_known t_news t_depth t_steps t_taken t_shown t_outcome _ h9) yk_X8_isFunction lk_X8_99 iv_X8_isFunction ⟨rfl, rfl⟩ ⟨Nat.le_of_ble_eq_true rfl, Nat.le_of_ble_eq_true rfl⟩ hl.1 0 rfl rfl [0] [] [0] rfl rfl rfl rfl (by decide) rfl rfl rfl rfl (Nat.le_of_ble_eq_true rfl) dX8_isGood_103 ⟨Nat.zero_le _, Nat.zero_le _⟩ (fun H locs hW => ?_)
        refine lv_goto (tgt := 127) hx hb dX8_isGood_106 (by decide) ?_
        obtain ⟨v10, h10, hf⟩ := g_bnd hf
        obtain ⟨rfl, hn, -⟩ := g_zr_ok h10
        obtain rfl := Option.some.inj hf
        exact gs_rz hC hW rfl hn dX8_isGood_127
    · replace hf := (if_pos c4).symm.trans hf
      refine lv_iload_n hx hb dX8_isGood_79 rfl (lv_at hl 2 rfl) ?_
      refine lv_if_lt (tgt := 93) hx hb dX8_isGood_80 (by decide) (fun c11 => ?_) (fun c11 => ?_)
      · replace hf := (if_pos c11).symm.trans hf
        refine lv_iconst (v := 0) hx hb dX8_isGood_93 (by decide) ?_
        obtain rfl := Option.some.inj hf
        exact gs_rz hC hW rfl g_n0 dX8_isGood_94
      · replace hf := (if_neg c11).symm.trans hf
        refine lv_iload_n hx hb dX8_isGood_83 rfl (lv_at hl 2 rfl) ?_
        refine lv_bipush (v := 16) hx hb dX8_isGood_84 (by decide) ?_
        refine lv_icmp_gt (tgt := 93) hx hb dX8_isGood_86 (by decide) (fun c12 => ?_) (fun c12 => ?_)
        · replace hf := (if_pos c12).symm.trans hf
          refine lv_iconst (v := 0) hx hb dX8_isGood_93 (by decide) ?_
          obtain rfl := Option.some.inj hf
          exact gs_rz hC hW rfl g_n0 dX8_isGood_94
        · replace hf := (if_neg c12).symm.trans hf
          refine lv_iconst (v := 1) hx hb dX8_isGood_89 (by decide) ?_
          refine lv_goto (tgt := 94) hx hb dX8_isGood_90 (by decide) ?_
          obtain rfl := Option.some.inj hf
          exact gs_rz hC hW rfl g_n1 dX8_isGood_94
def f_X8_isGood_37 (x1 : Int32) (x2 : Int32) (x3 : Int32) (x4 : Int32) (x5 : Int32) (x6 : Int32) (t_own : Int32) (x7 : Int32) : Option (Int32) := if x7 ≤ 1 then if x7 ≤ 2 then f_X8_isGood_67 x1 x2 x3 x4 x5 x6 t_own else (f_X8_isOperand x6).bind (fun o15 => if o15 = 0 then some 0 else f_X8_isGood_67 x1 x2 x3 x4 x5 x6 t_own) else (f_X8_isOperand x5).bind (fun o17 => if o17 = 0 then some 0 else if x7 ≤ 2 then f_X8_isGood_67 x1 x2 x3 x4 x5 x6 t_own else (f_X8_isOperand x6).bind (fun o20 => if o20 = 0 then some 0 else f_X8_isGood_67 x1 x2 x3 x4 x5 x6 t_own))
set_option maxHeartbeats 4000000 in
set_option maxRecDepth 100000 in
theorem b_X8_isGood_37 {p : Program} {l : Launch} {e : Env} {s : State} {m : MethodId} {args : Array Value} {below : List Frame} {meth : Method} {c : Code} {tA : Nat} {dC : Nat → ClassId} {dI : Nat → Nat → Nat} {cI cZ cJ : ClassId} {A : Nat → Prop} {a_t : Nat} {a_t_parameters : Nat} {a_t_length : Nat} {a_t_newLength : Nat} {a_t_first : Nat} {a_t_now : Nat} {a_t_anew : Nat} {a_t_table : Nat} {a_t_inputs : Nat} {a_t_met : Nat} {a_t_any : Nat} {a_t_number : Nat} {a_t_outAny : Nat} {a_t_out : Nat} {a_t_at : Nat} {a_t_in : Nat} {a_t_back : Nat} {a_t_register : Nat} {a_t_output : Nat} {a_t_calls : Nat} {a_t_latest : Nat} {a_t_differ : Nat} {x1 : Int32} {x2 : Int32} {x3 : Int32} {x4 : Int32} {x5 : Int32} {x6 : Int32} {t_own : Int32} {t_code : Int32} {t_count : Int32} {t_tableSize : Int32} {t_given : Int32} {t_known : Int32} {t_news : Int32} {t_depth : Int32} {t_steps : Int32} {t_taken : Int32} {t_shown : Int32} {t_outcome : Int32} {x7 : Int32} {out : Int32} (hC : g_C p s m meth c args cX8_isGood 8 (some .boolean) RX8) (hf : f_X8_isGood_37 x1 x2 x3 x4 x5 x6 t_own x7 = some out) {H : Heap} {locs : List Loc} {ls : Array Slot} (hW : g_W tA dC dI cI cZ cJ A s H locs (w_X8_isGood cI cZ cJ a_t a_t_parameters a_t_length a_t_newLength a_t_first a_t_now a_t_anew a_t_table a_t_inputs a_t_met a_t_any a_t_number a_t_outAny a_t_out a_t_at a_t_in a_t_back a_t_register a_t_output a_t_calls a_t_latest a_t_differ t_code t_own t_count t_tableSize t_given t_known t_news t_depth t_steps t_taken t_shown t_outcome)) (hl : lv_has ls 8 [(0, .ref a_t), (1, .int x1), (3, .int x3), (5, .int x5), (6, .int x6), (7, .int x7)]) : W p l e r_X8_isGood s m args below meth c H locs 0 0 (MQ below (g_Qi dC dI cI cZ cJ A (w_X8_isGood cI cZ cJ a_t a_t_parameters a_t_length a_t_newLength a_t_first a_t_now a_t_anew a_t_table a_t_inputs a_t_met a_t_any a_t_number a_t_outAny a_t_out a_t_at a_t_in a_t_back a_t_register a_t_output a_t_calls a_t_latest a_t_differ t_code t_own t_count t_tableSize t_given t_known t_news t_depth t_steps t_taken t_shown t_outcome) out) args s 0 0 A) (F0 m 37 ls []) := by
  have hx := hC.1
  have hb := hC.2.1
  have hown := hC.2.2.2.2.1
  have hts := hC.2.2.2.2.2.1
  unfold f_X8_isGood_37 at hf
  refine lv_iload hx hb dX8_isGood_37 (lv_at hl 5 rfl) ?_
  refine lv_iconst (v := 1) hx hb dX8_isGood_39 (by decide) ?_
  refine lv_icmp_le (tgt := 51) hx hb dX8_isGood_40 (by decide) (fun c13 => ?_) (fun c13 => ?_)
  · replace hf := (if_pos c13).symm.trans hf
    refine lv_iload hx hb dX8_isGood_51 (lv_at hl 5 rfl) ?_
    refine lv_iconst (v := 2) hx hb dX8_isGood_53 (by decide) ?_
    refine lv_icmp_le (tgt := 67) hx hb dX8_isGood_54 (by decide) (fun c14 => ?_) (fun c14 => ?_)
    · replace hf := (if_pos c14).symm.trans hf
      exact b_X8_isGood_67 hC hf hW (lv_sub hl [0, 1, 2] rfl)
    · replace hf := (if_neg c14).symm.trans hf
      refine lv_iload hx hb dX8_isGood_57 (lv_at hl 4 rfl) ?_
      obtain ⟨o15, h15, hf⟩ := g_bnd hf
      refine gs_callSi (ws' := w_X8_isGood cI cZ cJ a_t a_t_parameters a_t_length a_t_newLength a_t_first a_t_now a_t_anew a_t_table a_t_inputs a_t_met a_t_any a_t_number a_t_outAny a_t_out a_t_at a_t_in a_t_back a_t_register a_t_output a_t_calls a_t_latest a_t_differ t_code t_own t_count t_tableSize t_given t_known t_news t_depth t_steps t_taken t_shown t_outcome) hC hW (k_X8_isOperand l tA dC dI cI cZ cJ x6 _ h15) yk_X8_isOperand lk_X8_95 is_X8_isOperand ⟨rfl, rfl⟩ ⟨Nat.le_of_ble_eq_true rfl, Nat.le_of_ble_eq_true rfl⟩ hl.1 [] [0] [0] rfl rfl rfl rfl (by decide) rfl rfl rfl rfl (Nat.le_of_ble_eq_true rfl) dX8_isGood_59 ⟨Nat.zero_le _, Nat.zero_le _⟩ (fun H locs hW => ?_)
      refine lv_if_ne (tgt := 67) hx hb dX8_isGood_62 (by decide) (fun c16 => ?_) (fun c16 => ?_)
      · replace hf := (if_neg c16).symm.trans hf
        exact b_X8_isGood_67 hC hf hW (lv_sub hl [0, 1, 2] rfl)
      · replace hf := (if_pos c16).symm.trans hf
        refine lv_iconst (v := 0) hx hb dX8_isGood_65 (by decide) ?_
        obtain rfl := Option.some.inj hf
        exact gs_rz hC hW rfl g_n0 dX8_isGood_66
  · replace hf := (if_neg c13).symm.trans hf
    refine lv_iload hx hb dX8_isGood_43 (lv_at hl 3 rfl) ?_
    obtain ⟨o17, h17, hf⟩ := g_bnd hf
    refine gs_callSi (ws' := w_X8_isGood cI cZ cJ a_t a_t_parameters a_t_length a_t_newLength a_t_first a_t_now a_t_anew a_t_table a_t_inputs a_t_met a_t_any a_t_number a_t_outAny a_t_out a_t_at a_t_in a_t_back a_t_register a_t_output a_t_calls a_t_latest a_t_differ t_code t_own t_count t_tableSize t_given t_known t_news t_depth t_steps t_taken t_shown t_outcome) hC hW (k_X8_isOperand l tA dC dI cI cZ cJ x5 _ h17) yk_X8_isOperand lk_X8_95 is_X8_isOperand ⟨rfl, rfl⟩ ⟨Nat.le_of_ble_eq_true rfl, Nat.le_of_ble_eq_true rfl⟩ hl.1 [] [0] [0] rfl rfl rfl rfl (by decide) rfl rfl rfl rfl (Nat.le_of_ble_eq_true rfl) dX8_isGood_45 ⟨Nat.zero_le _, Nat.zero_le _⟩ (fun H locs hW => ?_)
    refine lv_if_eq (tgt := 65) hx hb dX8_isGood_48 (by decide) (fun c18 => ?_) (fun c18 => ?_)
    · replace hf := (if_pos c18).symm.trans hf
      refine lv_iconst (v := 0) hx hb dX8_isGood_65 (by decide) ?_
      obtain rfl := Option.some.inj hf
      exact gs_rz hC hW rfl g_n0 dX8_isGood_66
    · replace hf := (if_neg c18).symm.trans hf
      refine lv_iload hx hb dX8_isGood_51 (lv_at hl 5 rfl) ?_
      refine lv_iconst (v := 2) hx hb dX8_isGood_53 (by decide) ?_
      refine lv_icmp_le (tgt := 67) hx hb dX8_isGood_54 (by decide) (fun c19 => ?_) (fun c19 => ?_)
      · replace hf := (if_pos c19).symm.trans hf
        exact b_X8_isGood_67 hC hf hW (lv_sub hl [0, 1, 2] rfl)
      · replace hf := (if_neg c19).symm.trans hf
        refine lv_iload hx hb dX8_isGood_57 (lv_at hl 4 rfl) ?_
        obtain ⟨o20, h20, hf⟩ := g_bnd hf
        refine gs_callSi (ws' := w_X8_isGood cI cZ cJ a_t a_t_parameters a_t_length a_t_newLength a_t_first a_t_now a_t_anew a_t_table a_t_inputs a_t_met a_t_any a_t_number a_t_outAny a_t_out a_t_at a_t_in a_t_back a_t_register a_t_output a_t_calls a_t_latest a_t_differ t_code t_own t_count t_tableSize t_given t_known t_news t_depth t_steps t_taken t_shown t_outcome) hC hW (k_X8_isOperand l tA dC dI cI cZ cJ x6 _ h20) yk_X8_isOperand lk_X8_95 is_X8_isOperand ⟨rfl, rfl⟩ ⟨Nat.le_of_ble_eq_true rfl, Nat.le_of_ble_eq_true rfl⟩ hl.1 [] [0] [0] rfl rfl rfl rfl (by decide) rfl rfl rfl rfl (Nat.le_of_ble_eq_true rfl) dX8_isGood_59 ⟨Nat.zero_le _, Nat.zero_le _⟩ (fun H locs hW => ?_)
        refine lv_if_ne (tgt := 67) hx hb dX8_isGood_62 (by decide) (fun c21 => ?_) (fun c21 => ?_)
        · replace hf := (if_neg c21).symm.trans hf
          exact b_X8_isGood_67 hC hf hW (lv_sub hl [0, 1, 2] rfl)
        · replace hf := (if_pos c21).symm.trans hf
          refine lv_iconst (v := 0) hx hb dX8_isGood_65 (by decide) ?_
          obtain rfl := Option.some.inj hf
          exact gs_rz hC hW rfl g_n0 dX8_isGood_66
def f_X8_isGood (x1 : Int32) (x2 : Int32) (x3 : Int32) (x4 : Int32) (x5 : Int32) (x6 : Int32) (t_own : Int32) : Option (Int32) := if 12 < x1 then some 0 else if x2 < 0 then some 0 else if x2 < 6 then (f_X8_uses x1).bind (fun o25 => if o25 ≤ 0 then f_X8_isGood_37 x1 x2 x3 x4 x5 x6 t_own o25 else (f_X8_isOperand x4).bind (fun o27 => if o27 = 0 then some 0 else f_X8_isGood_37 x1 x2 x3 x4 x5 x6 t_own o25)) else some 0
set_option maxHeartbeats 4000000 in
set_option maxRecDepth 100000 in
theorem k_X8_isGood (l : Launch) (tA : Nat) (dC : Nat → ClassId) (dI : Nat → Nat → Nat) (cI cZ cJ : ClassId) (a_t : Nat) (a_t_parameters : Nat) (a_t_length : Nat) (a_t_newLength : Nat) (a_t_first : Nat) (a_t_now : Nat) (a_t_anew : Nat) (a_t_table : Nat) (a_t_inputs : Nat) (a_t_met : Nat) (a_t_any : Nat) (a_t_number : Nat) (a_t_outAny : Nat) (a_t_out : Nat) (a_t_at : Nat) (a_t_in : Nat) (a_t_back : Nat) (a_t_register : Nat) (a_t_output : Nat) (a_t_calls : Nat) (a_t_latest : Nat) (a_t_differ : Nat) (x1 : Int32) (x2 : Int32) (x3 : Int32) (x4 : Int32) (x5 : Int32) (x6 : Int32) (t_code : Int32) (t_own : Int32) (t_count : Int32) (t_tableSize : Int32) (t_given : Int32) (t_known : Int32) (t_news : Int32) (t_depth : Int32) (t_steps : Int32) (t_taken : Int32) (t_shown : Int32) (t_outcome : Int32) (out : Int32) (hf : f_X8_isGood x1 x2 x3 x4 x5 x6 t_own = some out) : g_Mi l yX8_isGood cX8_isGood 8 (some .boolean) r_X8_isGood tA dC dI cI cZ cJ [.ref a_t, .int x1, .int x2, .int x3, .int x4, .int x5, .int x6] (w_X8_isGood cI cZ cJ a_t a_t_parameters a_t_length a_t_newLength a_t_first a_t_now a_t_anew a_t_table a_t_inputs a_t_met a_t_any a_t_number a_t_outAny a_t_out a_t_at a_t_in a_t_back a_t_register a_t_output a_t_calls a_t_latest a_t_differ t_code t_own t_count t_tableSize t_given t_known t_news t_depth t_steps t_taken t_shown t_outcome) (w_X8_isGood cI cZ cJ a_t a_t_parameters a_t_length a_t_newLength a_t_first a_t_now a_t_anew a_t_table a_t_inputs a_t_met a_t_any a_t_number a_t_outAny a_t_out a_t_at a_t_in a_t_back a_t_register a_t_output a_t_calls a_t_latest a_t_differ t_code t_own t_count t_tableSize t_given t_known t_news t_depth t_steps t_taken t_shown t_outcome) out := by
  unfold f_X8_isGood at hf
  refine ge_i (by decide) (Nat.le_of_ble_eq_true rfl) (fun p e s m below meth c A H locs ls hC hW hl => ?_)
  have hC : g_C p s m meth c _ cX8_isGood 8 (some .boolean) RX8 := hC
  have hx := hC.1
  have hb := hC.2.1
  have hown := hC.2.2.2.2.1
  have hts := hC.2.2.2.2.2.1
  have hl : lv_has ls 8 [(0, .ref a_t), (1, .int x1), (2, .int x2), (3, .int x3), (4, .int x4), (5, .int x5), (6, .int x6)] := hl
  refine lv_iload_n hx hb dX8_isGood_0 rfl (lv_at hl 1 rfl) ?_
  refine lv_bipush (v := 12) hx hb dX8_isGood_1 (by decide) ?_
  refine lv_icmp_gt (tgt := 16) hx hb dX8_isGood_3 (by decide) (fun c22 => ?_) (fun c22 => ?_)
  · replace hf := (if_pos c22).symm.trans hf
    refine lv_iconst (v := 0) hx hb dX8_isGood_16 (by decide) ?_
    obtain rfl := Option.some.inj hf
    exact gs_rz hC hW rfl g_n0 dX8_isGood_17
  · replace hf := (if_neg c22).symm.trans hf
    refine lv_iload_n hx hb dX8_isGood_6 rfl (lv_at hl 2 rfl) ?_
    refine lv_if_lt (tgt := 16) hx hb dX8_isGood_7 (by decide) (fun c23 => ?_) (fun c23 => ?_)
    · replace hf := (if_pos c23).symm.trans hf
      refine lv_iconst (v := 0) hx hb dX8_isGood_16 (by decide) ?_
      obtain rfl := Option.some.inj hf
      exact gs_rz hC hW rfl g_n0 dX8_isGood_17
    · replace hf := (if_neg c23).symm.trans hf
      refine lv_iload_n hx hb dX8_isGood_10 rfl (lv_at hl 2 rfl) ?_
      refine lv_bipush (v := 6) hx hb dX8_isGood_11 (by decide) ?_
      refine lv_icmp_lt (tgt := 18) hx hb dX8_isGood_13 (by decide) (fun c24 => ?_) (fun c24 => ?_)
      · replace hf := (if_pos c24).symm.trans hf
        refine lv_iload_n hx hb dX8_isGood_18 rfl (lv_at hl 1 rfl) ?_
        obtain ⟨o25, h25, hf⟩ := g_bnd hf
        refine gs_callSi (ws' := w_X8_isGood cI cZ cJ a_t a_t_parameters a_t_length a_t_newLength a_t_first a_t_now a_t_anew a_t_table a_t_inputs a_t_met a_t_any a_t_number a_t_outAny a_t_out a_t_at a_t_in a_t_back a_t_register a_t_output a_t_calls a_t_latest a_t_differ t_code t_own t_count t_tableSize t_given t_known t_news t_depth t_steps t_taken t_shown t_outcome) hC hW (k_X8_uses l tA dC dI cI cZ cJ x1 _ h25) yk_X8_uses lk_X8_91 is_X8_uses ⟨rfl, rfl⟩ ⟨Nat.le_of_ble_eq_true rfl, Nat.le_of_ble_eq_true rfl⟩ hl.1 [] [0] [0] rfl rfl rfl rfl (by decide) rfl rfl rfl rfl (Nat.le_of_ble_eq_true rfl) dX8_isGood_19 ⟨Nat.zero_le _, Nat.zero_le _⟩ (fun H locs hW => ?_)
        refine lv_istore (lv' := [(7, .int o25), (0, .ref a_t), (1, .int x1), (2, .int x2), (3, .int x3), (4, .int x4), (5, .int x5), (6, .int x6)]) hx hb dX8_isGood_22 hl (by decide) rfl (fun ls hl => ?_)
        refine lv_iload hx hb dX8_isGood_24 (lv_at hl 0 rfl) ?_
        refine lv_if_le (tgt := 37) hx hb dX8_isGood_26 (by decide) (fun c26 => ?_) (fun c26 => ?_)
        · replace hf := (if_pos c26).symm.trans hf
          exact b_X8_isGood_37 hC hf hW (lv_sub hl [1, 2, 4, 6, 7, 0] rfl)
        · replace hf := (if_neg c26).symm.trans hf
          refine lv_iload hx hb dX8_isGood_29 (lv_at hl 5 rfl) ?_
          obtain ⟨o27, h27, hf⟩ := g_bnd hf
          refine gs_callSi (ws' := w_X8_isGood cI cZ cJ a_t a_t_parameters a_t_length a_t_newLength a_t_first a_t_now a_t_anew a_t_table a_t_inputs a_t_met a_t_any a_t_number a_t_outAny a_t_out a_t_at a_t_in a_t_back a_t_register a_t_output a_t_calls a_t_latest a_t_differ t_code t_own t_count t_tableSize t_given t_known t_news t_depth t_steps t_taken t_shown t_outcome) hC hW (k_X8_isOperand l tA dC dI cI cZ cJ x4 _ h27) yk_X8_isOperand lk_X8_95 is_X8_isOperand ⟨rfl, rfl⟩ ⟨Nat.le_of_ble_eq_true rfl, Nat.le_of_ble_eq_true rfl⟩ hl.1 [] [0] [0] rfl rfl rfl rfl (by decide) rfl rfl rfl rfl (Nat.le_of_ble_eq_true rfl) dX8_isGood_31 ⟨Nat.zero_le _, Nat.zero_le _⟩ (fun H locs hW => ?_)
          refine lv_if_eq (tgt := 65) hx hb dX8_isGood_34 (by decide) (fun c28 => ?_) (fun c28 => ?_)
          · replace hf := (if_pos c28).symm.trans hf
            refine lv_iconst (v := 0) hx hb dX8_isGood_65 (by decide) ?_
            obtain rfl := Option.some.inj hf
            exact gs_rz hC hW rfl g_n0 dX8_isGood_66
          · replace hf := (if_neg c28).symm.trans hf
            exact b_X8_isGood_37 hC hf hW (lv_sub hl [1, 2, 4, 6, 7, 0] rfl)
      · replace hf := (if_neg c24).symm.trans hf
        refine lv_iconst (v := 0) hx hb dX8_isGood_16 (by decide) ?_
        obtain rfl := Option.some.inj hf
        exact gs_rz hC hW rfl g_n0 dX8_isGood_17

abbrev w_X8_code (cI cZ cJ : ClassId) (a_t : Nat) (a_t_length : Nat) (a_t_first : Nat) (a_t_parameters : Nat) (a_t_newLength : Nat) (a_t_now : Nat) (a_t_anew : Nat) (a_t_table : Nat) (a_t_inputs : Nat) (a_t_met : Nat) (a_t_any : Nat) (a_t_number : Nat) (a_t_outAny : Nat) (a_t_out : Nat) (a_t_at : Nat) (a_t_in : Nat) (a_t_back : Nat) (a_t_register : Nat) (a_t_output : Nat) (a_t_calls : Nat) (a_t_latest : Nat) (a_t_differ : Nat) (t_code : Int32) (t_own : Int32) (t_count : Int32) (t_tableSize : Int32) (t_given : Int32) (t_known : Int32) (t_news : Int32) (t_depth : Int32) (t_steps : Int32) (t_taken : Int32) (t_shown : Int32) (t_outcome : Int32) (t_length : Nat → Int32) (t_first : Nat → Int32) : va_W := [(a_t, .inr (8, [.int t_code, .int t_own, .int t_count, .ref a_t_parameters, .ref a_t_length, .ref a_t_newLength, .ref a_t_first, .ref a_t_now, .ref a_t_anew, .int t_tableSize, .ref a_t_table, .int t_given, .ref a_t_inputs, .int t_known, .ref a_t_met, .ref a_t_any, .ref a_t_number, .int t_news, .ref a_t_outAny, .ref a_t_out, .int t_depth, .int t_steps, .int t_taken, .int t_shown, .ref a_t_at, .ref a_t_in, .ref a_t_back, .ref a_t_register, .ref a_t_output, .ref a_t_calls, .ref a_t_latest, .ref a_t_differ, .int t_outcome])), (a_t_length, .inl (cI, 12, .inl t_length)), (a_t_first, .inl (cI, 576, .inl t_first))]
abbrev r_X8_code : Room := { frames := 2, cells := 0, slots := 0, locals := 48 }
def f_X8_code_54 (x1 : Int32) (x2 : Int32) (x3 : Int32) (x4 : Int32) (x5 : Int32) (x6 : Int32) (t_own : Int32) (z0 : Int32) (t_code : Int32) (t_count : Int32) (t_known : Int32) (t_length : Nat → Int32) (t_first : Nat → Int32) : Option (Int32 × Int32 × Int32 × Int32 × (Nat → Int32) × (Nat → Int32)) := if z0 ≤ 0 then (g_rd 12 t_length x1).bind (fun v2 => (g_wr 576 t_first ((96 * x1) + (6 * v2)) (x2 &&& 15)).bind (fun s3 => (g_wr 576 s3 (((96 * x1) + (6 * v2)) + 1) (x2 >>> (4 &&& 31))).bind (fun s4 => (g_wr 576 s4 (((96 * x1) + (6 * v2)) + 2) x3).bind (fun s5 => (g_wr 576 s5 (((96 * x1) + (6 * v2)) + 3) x4).bind (fun s6 => (g_wr 576 s6 (((96 * x1) + (6 * v2)) + 4) x5).bind (fun s7 => (g_wr 576 s7 (((96 * x1) + (6 * v2)) + 5) x6).bind (fun s8 => (g_rd 12 t_length x1).bind (fun v9 => (g_wr 12 t_length x1 (v9 + 1)).bind (fun s10 => (f_X8_forget t_own t_count t_known).bind (fun o11 => (g_rd 12 s10 x1).bind (fun v12 => some ((v12 - 1), z0, o11.1, o11.2, s10, s8)))))))))))) else some (0, z0, t_count, t_known, t_length, t_first)
set_option maxHeartbeats 4000000 in
set_option maxRecDepth 100000 in
theorem b_X8_code_54 {p : Program} {l : Launch} {e : Env} {s : State} {m : MethodId} {args : Array Value} {below : List Frame} {meth : Method} {c : Code} {tA : Nat} {dC : Nat → ClassId} {dI : Nat → Nat → Nat} {cI cZ cJ : ClassId} {A : Nat → Prop} {a_t : Nat} {a_t_length : Nat} {a_t_first : Nat} {a_t_parameters : Nat} {a_t_newLength : Nat} {a_t_now : Nat} {a_t_anew : Nat} {a_t_table : Nat} {a_t_inputs : Nat} {a_t_met : Nat} {a_t_any : Nat} {a_t_number : Nat} {a_t_outAny : Nat} {a_t_out : Nat} {a_t_at : Nat} {a_t_in : Nat} {a_t_back : Nat} {a_t_register : Nat} {a_t_output : Nat} {a_t_calls : Nat} {a_t_latest : Nat} {a_t_differ : Nat} {x1 : Int32} {x2 : Int32} {x3 : Int32} {x4 : Int32} {x5 : Int32} {x6 : Int32} {t_own : Int32} {t_tableSize : Int32} {t_given : Int32} {t_news : Int32} {t_depth : Int32} {t_steps : Int32} {t_taken : Int32} {t_shown : Int32} {t_outcome : Int32} {z0 : Int32} {t_code : Int32} {t_count : Int32} {t_known : Int32} {t_length : Nat → Int32} {t_first : Nat → Int32} {out : Int32 × Int32 × Int32 × Int32 × (Nat → Int32) × (Nat → Int32)} (hC : g_C p s m meth c args cX8_code 8 (some .int) RX8) (hf : f_X8_code_54 x1 x2 x3 x4 x5 x6 t_own z0 t_code t_count t_known t_length t_first = some out) {H : Heap} {locs : List Loc} {ls : Array Slot} (hW : g_W tA dC dI cI cZ cJ A s H locs (w_X8_code cI cZ cJ a_t a_t_length a_t_first a_t_parameters a_t_newLength a_t_now a_t_anew a_t_table a_t_inputs a_t_met a_t_any a_t_number a_t_outAny a_t_out a_t_at a_t_in a_t_back a_t_register a_t_output a_t_calls a_t_latest a_t_differ t_code t_own t_count t_tableSize t_given t_known t_news t_depth t_steps t_taken t_shown t_outcome t_length t_first)) (hl : lv_has ls 8 [(0, .ref a_t), (1, .int x1), (2, .int x2), (3, .int x3), (4, .int x4), (5, .int x5), (6, .int x6)]) : W p l e r_X8_code s m args below meth c H locs 0 0 (MQ below (g_Qi dC dI cI cZ cJ A (w_X8_code cI cZ cJ a_t a_t_length a_t_first a_t_parameters a_t_newLength a_t_now a_t_anew a_t_table a_t_inputs a_t_met a_t_any a_t_number a_t_outAny a_t_out a_t_at a_t_in a_t_back a_t_register a_t_output a_t_calls a_t_latest a_t_differ out.2.1 t_own out.2.2.1 t_tableSize t_given out.2.2.2.1 t_news t_depth t_steps t_taken t_shown t_outcome out.2.2.2.2.1 out.2.2.2.2.2) out.1) args s 0 0 A) (F0 m 54 ls [.int z0, .ref a_t]) := by
  have hx := hC.1
  have hb := hC.2.1
  have hown := hC.2.2.2.2.1
  have hts := hC.2.2.2.2.2.1
  unfold f_X8_code_54 at hf
  refine gs_put (ws' := w_X8_code cI cZ cJ a_t a_t_length a_t_first a_t_parameters a_t_newLength a_t_now a_t_anew a_t_table a_t_inputs a_t_met a_t_any a_t_number a_t_outAny a_t_out a_t_at a_t_in a_t_back a_t_register a_t_output a_t_calls a_t_latest a_t_differ z0 t_own t_count t_tableSize t_given t_known t_news t_depth t_steps t_taken t_shown t_outcome t_length t_first) hC hW in_X8 tyX8_ok nmX8 0 0 rfl rfl (by decide) fl_X8_74 rfl rfl rfl (Nat.le_of_ble_eq_true rfl) rfl dX8_code_54 (fun H locs hW => ?_)
  refine lv_aload_n hx hb dX8_code_57 rfl (lv_at hl 0 rfl) ?_
  refine gs_get hC hW in_X8 0 0 rfl rfl (by decide) fl_X8_74 rfl dX8_code_58 ?_
  refine lv_if_le (tgt := 66) hx hb dX8_code_61 (by decide) (fun c1 => ?_) (fun c1 => ?_)
  · replace hf := (if_pos c1).symm.trans hf
    refine lv_bipush (v := 96) hx hb dX8_code_66 (by decide) ?_
    refine lv_iload_n hx hb dX8_code_68 rfl (lv_at hl 1 rfl) ?_
    refine lv_imul hx hb dX8_code_69 ?_
    refine lv_bipush (v := 6) hx hb dX8_code_70 (by decide) ?_
    refine lv_aload_n hx hb dX8_code_72 rfl (lv_at hl 0 rfl) ?_
    refine gs_get hC hW in_X8 0 4 rfl rfl (by decide) fl_X8_13 rfl dX8_code_73 ?_
    refine lv_iload_n hx hb dX8_code_76 rfl (lv_at hl 1 rfl) ?_
    obtain ⟨v2, h2, hf⟩ := g_bnd hf
    refine gs_iald hC hW 1 h2 rfl dX8_code_77 ?_
    refine lv_imul hx hb dX8_code_78 ?_
    refine lv_iadd hx hb dX8_code_79 ?_
    refine lv_istore (lv' := [(7, .int ((96 * x1) + (6 * v2))), (0, .ref a_t), (1, .int x1), (2, .int x2), (3, .int x3), (4, .int x4), (5, .int x5), (6, .int x6)]) hx hb dX8_code_80 hl (by decide) rfl (fun ls hl => ?_)
    refine lv_aload_n hx hb dX8_code_82 rfl (lv_at hl 1 rfl) ?_
    refine gs_get hC hW in_X8 0 6 rfl rfl (by decide) fl_X8_19 rfl dX8_code_83 ?_
    refine lv_iload hx hb dX8_code_86 (lv_at hl 0 rfl) ?_
    refine lv_iload_n hx hb dX8_code_88 rfl (lv_at hl 3 rfl) ?_
    refine lv_bipush (v := 15) hx hb dX8_code_89 (by decide) ?_
    refine lv_iand hx hb dX8_code_91 ?_
    obtain ⟨s3, h3, hf⟩ := g_bnd hf
    refine gs_iast (ws' := w_X8_code cI cZ cJ a_t a_t_length a_t_first a_t_parameters a_t_newLength a_t_now a_t_anew a_t_table a_t_inputs a_t_met a_t_any a_t_number a_t_outAny a_t_out a_t_at a_t_in a_t_back a_t_register a_t_output a_t_calls a_t_latest a_t_differ z0 t_own t_count t_tableSize t_given t_known t_news t_depth t_steps t_taken t_shown t_outcome t_length s3) hC hW 2 h3 rfl rfl dX8_code_92 (fun H locs hW => ?_)
    refine lv_aload_n hx hb dX8_code_93 rfl (lv_at hl 1 rfl) ?_
    refine gs_get hC hW in_X8 0 6 rfl rfl (by decide) fl_X8_19 rfl dX8_code_94 ?_
    refine lv_iload hx hb dX8_code_97 (lv_at hl 0 rfl) ?_
    refine lv_iconst (v := 1) hx hb dX8_code_99 (by decide) ?_
    refine lv_iadd hx hb dX8_code_100 ?_
    refine lv_iload_n hx hb dX8_code_101 rfl (lv_at hl 3 rfl) ?_
    refine lv_iconst (v := 4) hx hb dX8_code_102 (by decide) ?_
    refine lv_ishr hx hb dX8_code_103 ?_
    obtain ⟨s4, h4, hf⟩ := g_bnd hf
    refine gs_iast (ws' := w_X8_code cI cZ cJ a_t a_t_length a_t_first a_t_parameters a_t_newLength a_t_now a_t_anew a_t_table a_t_inputs a_t_met a_t_any a_t_number a_t_outAny a_t_out a_t_at a_t_in a_t_back a_t_register a_t_output a_t_calls a_t_latest a_t_differ z0 t_own t_count t_tableSize t_given t_known t_news t_depth t_steps t_taken t_shown t_outcome t_length s4) hC hW 2 h4 rfl rfl dX8_code_104 (fun H locs hW => ?_)
    refine lv_aload_n hx hb dX8_code_105 rfl (lv_at hl 1 rfl) ?_
    refine gs_get hC hW in_X8 0 6 rfl rfl (by decide) fl_X8_19 rfl dX8_code_106 ?_
    refine lv_iload hx hb dX8_code_109 (lv_at hl 0 rfl) ?_
    refine lv_iconst (v := 2) hx hb dX8_code_111 (by decide) ?_
    refine lv_iadd hx hb dX8_code_112 ?_
    refine lv_iload_n hx hb dX8_code_113 rfl (lv_at hl 4 rfl) ?_
    obtain ⟨s5, h5, hf⟩ := g_bnd hf
    refine gs_iast (ws' := w_X8_code cI cZ cJ a_t a_t_length a_t_first a_t_parameters a_t_newLength a_t_now a_t_anew a_t_table a_t_inputs a_t_met a_t_any a_t_number a_t_outAny a_t_out a_t_at a_t_in a_t_back a_t_register a_t_output a_t_calls a_t_latest a_t_differ z0 t_own t_count t_tableSize t_given t_known t_news t_depth t_steps t_taken t_shown t_outcome t_length s5) hC hW 2 h5 rfl rfl dX8_code_114 (fun H locs hW => ?_)
    refine lv_aload_n hx hb dX8_code_115 rfl (lv_at hl 1 rfl) ?_
    refine gs_get hC hW in_X8 0 6 rfl rfl (by decide) fl_X8_19 rfl dX8_code_116 ?_
    refine lv_iload hx hb dX8_code_119 (lv_at hl 0 rfl) ?_
    refine lv_iconst (v := 3) hx hb dX8_code_121 (by decide) ?_
    refine lv_iadd hx hb dX8_code_122 ?_
    refine lv_iload hx hb dX8_code_123 (lv_at hl 5 rfl) ?_
    obtain ⟨s6, h6, hf⟩ := g_bnd hf
    refine gs_iast (ws' := w_X8_code cI cZ cJ a_t a_t_length a_t_first a_t_parameters a_t_newLength a_t_now a_t_anew a_t_table a_t_inputs a_t_met a_t_any a_t_number a_t_outAny a_t_out a_t_at a_t_in a_t_back a_t_register a_t_output a_t_calls a_t_latest a_t_differ z0 t_own t_count t_tableSize t_given t_known t_news t_depth t_steps t_taken t_shown t_outcome t_length s6) hC hW 2 h6 rfl rfl dX8_code_125 (fun H locs hW => ?_)
    refine lv_aload_n hx hb dX8_code_126 rfl (lv_at hl 1 rfl) ?_
    refine gs_get hC hW in_X8 0 6 rfl rfl (by decide) fl_X8_19 rfl dX8_code_127 ?_
    refine lv_iload hx hb dX8_code_130 (lv_at hl 0 rfl) ?_
    refine lv_iconst (v := 4) hx hb dX8_code_132 (by decide) ?_
    refine lv_iadd hx hb dX8_code_133 ?_
    refine lv_iload hx hb dX8_code_134 (lv_at hl 6 rfl) ?_
    obtain ⟨s7, h7, hf⟩ := g_bnd hf
    refine gs_iast (ws' := w_X8_code cI cZ cJ a_t a_t_length a_t_first a_t_parameters a_t_newLength a_t_now a_t_anew a_t_table a_t_inputs a_t_met a_t_any a_t_number a_t_outAny a_t_out a_t_at a_t_in a_t_back a_t_register a_t_output a_t_calls a_t_latest a_t_differ z0 t_own t_count t_tableSize t_given t_known t_news t_depth t_steps t_taken t_shown t_outcome t_length s7) hC hW 2 h7 rfl rfl dX8_code_136 (fun H locs hW => ?_)
    refine lv_aload_n hx hb dX8_code_137 rfl (lv_at hl 1 rfl) ?_
    refine gs_get hC hW in_X8 0 6 rfl rfl (by decide) fl_X8_19 rfl dX8_code_138 ?_
    refine lv_iload hx hb dX8_code_141 (lv_at hl 0 rfl) ?_
    refine lv_iconst (v := 5) hx hb dX8_code_143 (by decide) ?_
    refine lv_iadd hx hb dX8_code_144 ?_
    refine lv_iload hx hb dX8_code_145 (lv_at hl 7 rfl) ?_
    obtain ⟨s8, h8, hf⟩ := g_bnd hf
    refine gs_iast (ws' := w_X8_code cI cZ cJ a_t a_t_length a_t_first a_t_parameters a_t_newLength a_t_now a_t_anew a_t_table a_t_inputs a_t_met a_t_any a_t_number a_t_outAny a_t_out a_t_at a_t_in a_t_back a_t_register a_t_output a_t_calls a_t_latest a_t_differ z0 t_own t_count t_tableSize t_given t_known t_news t_depth t_steps t_taken t_shown t_outcome t_length s8) hC hW 2 h8 rfl rfl dX8_code_147 (fun H locs hW => ?_)
    refine lv_aload_n hx hb dX8_code_148 rfl (lv_at hl 1 rfl) ?_
    refine gs_get hC hW in_X8 0 4 rfl rfl (by decide) fl_X8_13 rfl dX8_code_149 ?_
    refine lv_iload_n hx hb dX8_code_152 rfl (lv_at hl 2 rfl) ?_
    refine lv_dup2_11 hx hb dX8_code_153 rfl rfl ?_
    obtain ⟨v9, h9, hf⟩ := g_bnd hf
    refine gs_iald hC hW 1 h9 rfl dX8_code_154 ?_
    refine lv_iconst (v := 1) hx hb dX8_code_155 (by decide) ?_
    refine lv_iadd hx hb dX8_code_156 ?_
    obtain ⟨s10, h10, hf⟩ := g_bnd hf
    refine gs_iast (ws' := w_X8_code cI cZ cJ a_t a_t_length a_t_first a_t_parameters a_t_newLength a_t_now a_t_anew a_t_table a_t_inputs a_t_met a_t_any a_t_number a_t_outAny a_t_out a_t_at a_t_in a_t_back a_t_register a_t_output a_t_calls a_t_latest a_t_differ z0 t_own t_count t_tableSize t_given t_known t_news t_depth t_steps t_taken t_shown t_outcome s10 s8) hC hW 1 h10 rfl rfl dX8_code_157 (fun H locs hW => ?_)
    refine lv_aload_n hx hb dX8_code_158 rfl (lv_at hl 1 rfl) ?_
    obtain ⟨o11, h11, hf⟩ := g_bnd hf
    refine gs_callVv (ws' := w_X8_code cI cZ cJ a_t a_t_length a_t_first a_t_parameters a_t_newLength a_t_now a_t_anew a_t_table a_t_inputs a_t_met a_t_any a_t_number a_t_outAny a_t_out a_t_at a_t_in a_t_back a_t_register a_t_output a_t_calls a_t_latest a_t_differ z0 t_own o11.1 t_tableSize t_given o11.2 t_news t_depth t_steps t_taken t_shown t_outcome s10 s8) hC hW (k_X8_forget l tA dC dI cI cZ cJ a_t a_t_parameters a_t_length a_t_newLength a_t_first a_t_now a_t_anew a_t_table a_t_inputs a_t_met a_t_any a_t_number a_t_outAny a_t_out a_t_at a_t_in a_t_back a_t_register a_t_output a_t_calls a_t_latest a_t_differ z0 t_own t_count t_tableSize t_given t_known t_news t_depth t_steps t_taken t_shown t_outcome _ h11) yk_X8_forget lk_X8_88 iv_X8_forget ⟨rfl, rfl⟩ ⟨Nat.le_of_ble_eq_true rfl, Nat.le_of_ble_eq_true rfl⟩ hl.1 0 rfl rfl [0] [1, 2] [2, 0, 1] rfl rfl rfl rfl (by decide) rfl rfl rfl rfl (Nat.le_of_ble_eq_true rfl) dX8_code_159 ⟨Nat.zero_le _, Nat.zero_le _⟩ (fun H locs hW => ?_)
    refine lv_aload_n hx hb dX8_code_162 rfl (lv_at hl 1 rfl) ?_
    refine gs_get hC hW in_X8 0 4 rfl rfl (by decide) fl_X8_13 rfl dX8_code_163 ?_
    refine lv_iload_n hx hb dX8_code_166 rfl (lv_at hl 2 rfl) ?_
    obtain ⟨v12, h12, hf⟩ := g_bnd hf
    refine gs_iald hC hW 1 h12 rfl dX8_code_167 ?_
    refine lv_iconst (v := 1) hx hb dX8_code_168 (by decide) ?_
    refine lv_isub hx hb dX8_code_169 ?_
    obtain rfl := Option.some.inj hf
    exact gs_ri hC hW rfl dX8_code_170
  · replace hf := (if_neg c1).symm.trans hf
    refine lv_iconst (v := 0) hx hb dX8_code_64 (by decide) ?_
    obtain rfl := Option.some.inj hf
    exact gs_ri hC hW rfl dX8_code_65
def f_X8_code (x1 : Int32) (x2 : Int32) (x3 : Int32) (x4 : Int32) (x5 : Int32) (x6 : Int32) (t_code : Int32) (t_own : Int32) (t_count : Int32) (t_known : Int32) (t_length : Nat → Int32) (t_first : Nat → Int32) : Option (Int32 × Int32 × Int32 × Int32 × (Nat → Int32) × (Nat → Int32)) := (f_X8_isFunction x1 t_own).bind (fun o13 => if o13 = 0 then f_X8_code_54 x1 x2 x3 x4 x5 x6 t_own 1 t_code t_count t_known t_length t_first else (f_X8_isGood (x2 &&& 15) (x2 >>> (4 &&& 31)) x3 x4 x5 x6 t_own).bind (fun o15 => if o15 = 0 then f_X8_code_54 x1 x2 x3 x4 x5 x6 t_own 2 t_code t_count t_known t_length t_first else (g_rd 12 t_length x1).bind (fun v17 => if v17 = 16 then f_X8_code_54 x1 x2 x3 x4 x5 x6 t_own 3 t_code t_count t_known t_length t_first else f_X8_code_54 x1 x2 x3 x4 x5 x6 t_own 0 t_code t_count t_known t_length t_first)))
set_option maxHeartbeats 4000000 in
set_option maxRecDepth 100000 in
theorem k_X8_code (l : Launch) (tA : Nat) (dC : Nat → ClassId) (dI : Nat → Nat → Nat) (cI cZ cJ : ClassId) (a_t : Nat) (a_t_length : Nat) (a_t_first : Nat) (a_t_parameters : Nat) (a_t_newLength : Nat) (a_t_now : Nat) (a_t_anew : Nat) (a_t_table : Nat) (a_t_inputs : Nat) (a_t_met : Nat) (a_t_any : Nat) (a_t_number : Nat) (a_t_outAny : Nat) (a_t_out : Nat) (a_t_at : Nat) (a_t_in : Nat) (a_t_back : Nat) (a_t_register : Nat) (a_t_output : Nat) (a_t_calls : Nat) (a_t_latest : Nat) (a_t_differ : Nat) (x1 : Int32) (x2 : Int32) (x3 : Int32) (x4 : Int32) (x5 : Int32) (x6 : Int32) (t_code : Int32) (t_own : Int32) (t_count : Int32) (t_tableSize : Int32) (t_given : Int32) (t_known : Int32) (t_news : Int32) (t_depth : Int32) (t_steps : Int32) (t_taken : Int32) (t_shown : Int32) (t_outcome : Int32) (t_length : Nat → Int32) (t_first : Nat → Int32) (out : Int32 × Int32 × Int32 × Int32 × (Nat → Int32) × (Nat → Int32)) (hf : f_X8_code x1 x2 x3 x4 x5 x6 t_code t_own t_count t_known t_length t_first = some out) : g_Mi l yX8_code cX8_code 8 (some .int) r_X8_code tA dC dI cI cZ cJ [.ref a_t, .int x1, .int x2, .int x3, .int x4, .int x5, .int x6] (w_X8_code cI cZ cJ a_t a_t_length a_t_first a_t_parameters a_t_newLength a_t_now a_t_anew a_t_table a_t_inputs a_t_met a_t_any a_t_number a_t_outAny a_t_out a_t_at a_t_in a_t_back a_t_register a_t_output a_t_calls a_t_latest a_t_differ t_code t_own t_count t_tableSize t_given t_known t_news t_depth t_steps t_taken t_shown t_outcome t_length t_first) (w_X8_code cI cZ cJ a_t a_t_length a_t_first a_t_parameters a_t_newLength a_t_now a_t_anew a_t_table a_t_inputs a_t_met a_t_any a_t_number a_t_outAny a_t_out a_t_at a_t_in a_t_back a_t_register a_t_output a_t_calls a_t_latest a_t_differ out.2.1 t_own out.2.2.1 t_tableSize t_given out.2.2.2.1 t_news t_depth t_steps t_taken t_shown t_outcome out.2.2.2.2.1 out.2.2.2.2.2) out.1 := by
  unfold f_X8_code at hf
  refine ge_i (by decide) (Nat.le_of_ble_eq_true rfl) (fun p e s m below meth c A H locs ls hC hW hl => ?_)
  have hC : g_C p s m meth c _ cX8_code 8 (some .int) RX8 := hC
  have hx := hC.1
  have hb := hC.2.1
  have hown := hC.2.2.2.2.1
  have hts := hC.2.2.2.2.2.1
  have hl : lv_has ls 8 [(0, .ref a_t), (1, .int x1), (2, .int x2), (3, .int x3), (4, .int x4), (5, .int x5), (6, .int x6)] := hl
  refine lv_aload_n hx hb dX8_code_0 rfl (lv_at hl 0 rfl) ?_
  refine lv_aload_n hx hb dX8_code_1 rfl (lv_at hl 0 rfl) ?_
  refine lv_iload_n hx hb dX8_code_2 rfl (lv_at hl 1 rfl) ?_
  obtain ⟨o13, h13, hf⟩ := g_bnd hf
  refine gs_callVi (ws' := w_X8_code cI cZ cJ a_t a_t_length a_t_first a_t_parameters a_t_newLength a_t_now a_t_anew a_t_table a_t_inputs a_t_met a_t_any a_t_number a_t_outAny a_t_out a_t_at a_t_in a_t_back a_t_register a_t_output a_t_calls a_t_latest a_t_differ t_code t_own t_count t_tableSize t_given t_known t_news t_depth t_steps t_taken t_shown t_outcome t_length t_first) hC hW (k_X8_isFunction l tA dC dI cI cZ cJ a_t a_t_parameters a_t_length a_t_newLength a_t_first a_t_now a_t_anew a_t_table a_t_inputs a_t_met a_t_any a_t_number a_t_outAny a_t_out a_t_at a_t_in a_t_back a_t_register a_t_output a_t_calls a_t_latest a_t_differ x1 t_code t_own t_count t_tableSize t_given t_known t_news t_depth t_steps t_taken t_shown t_outcome _ h13) yk_X8_isFunction lk_X8_99 iv_X8_isFunction ⟨rfl, rfl⟩ ⟨Nat.le_of_ble_eq_true rfl, Nat.le_of_ble_eq_true rfl⟩ hl.1 0 rfl rfl [0] [1, 2] [2, 0, 1] rfl rfl rfl rfl (by decide) rfl rfl rfl rfl (Nat.le_of_ble_eq_true rfl) dX8_code_3 ⟨Nat.zero_le _, Nat.zero_le _⟩ (fun H locs hW => ?_)
  refine lv_if_ne (tgt := 13) hx hb dX8_code_6 (by decide) (fun c14 => ?_) (fun c14 => ?_)
  · replace hf := (if_neg c14).symm.trans hf
    refine lv_aload_n hx hb dX8_code_13 rfl (lv_at hl 0 rfl) ?_
    refine lv_iload_n hx hb dX8_code_14 rfl (lv_at hl 2 rfl) ?_
    refine lv_bipush (v := 15) hx hb dX8_code_15 (by decide) ?_
    refine lv_iand hx hb dX8_code_17 ?_
    refine lv_iload_n hx hb dX8_code_18 rfl (lv_at hl 2 rfl) ?_
    refine lv_iconst (v := 4) hx hb dX8_code_19 (by decide) ?_
    refine lv_ishr hx hb dX8_code_20 ?_
    refine lv_iload_n hx hb dX8_code_21 rfl (lv_at hl 3 rfl) ?_
    refine lv_iload hx hb dX8_code_22 (lv_at hl 4 rfl) ?_
    refine lv_iload hx hb dX8_code_24 (lv_at hl 5 rfl) ?_
    refine lv_iload hx hb dX8_code_26 (lv_at hl 6 rfl) ?_
    obtain ⟨o15, h15, hf⟩ := g_bnd hf
    refine gs_callVi (ws' := w_X8_code cI cZ cJ a_t a_t_length a_t_first a_t_parameters a_t_newLength a_t_now a_t_anew a_t_table a_t_inputs a_t_met a_t_any a_t_number a_t_outAny a_t_out a_t_at a_t_in a_t_back a_t_register a_t_output a_t_calls a_t_latest a_t_differ t_code t_own t_count t_tableSize t_given t_known t_news t_depth t_steps t_taken t_shown t_outcome t_length t_first) hC hW (k_X8_isGood l tA dC dI cI cZ cJ a_t a_t_parameters a_t_length a_t_newLength a_t_first a_t_now a_t_anew a_t_table a_t_inputs a_t_met a_t_any a_t_number a_t_outAny a_t_out a_t_at a_t_in a_t_back a_t_register a_t_output a_t_calls a_t_latest a_t_differ (x2 &&& 15) (x2 >>> (4 &&& 31)) x3 x4 x5 x6 t_code t_own t_count t_tableSize t_given t_known t_news t_depth t_steps t_taken t_shown t_outcome _ h15) yk_X8_isGood lk_X8_102 iv_X8_isGood ⟨rfl, rfl⟩ ⟨Nat.le_of_ble_eq_true rfl, Nat.le_of_ble_eq_true rfl⟩ hl.1 0 rfl rfl [0] [1, 2] [2, 0, 1] rfl rfl rfl rfl (by decide) rfl rfl rfl rfl (Nat.le_of_ble_eq_true rfl) dX8_code_28 ⟨Nat.zero_le _, Nat.zero_le _⟩ (fun H locs hW => ?_)
    refine lv_if_ne (tgt := 38) hx hb dX8_code_31 (by decide) (fun c16 => ?_) (fun c16 => ?_)
    · replace hf := (if_neg c16).symm.trans hf
      refine lv_aload_n hx hb dX8_code_38 rfl (lv_at hl 0 rfl) ?_
      refine gs_get hC hW in_X8 0 4 rfl rfl (by decide) fl_X8_13 rfl dX8_code_39 ?_
      refine lv_iload_n hx hb dX8_code_42 rfl (lv_at hl 1 rfl) ?_
      obtain ⟨v17, h17, hf⟩ := g_bnd hf
      refine gs_iald hC hW 1 h17 rfl dX8_code_43 ?_
      refine lv_bipush (v := 16) hx hb dX8_code_44 (by decide) ?_
      refine lv_icmp_ne (tgt := 53) hx hb dX8_code_46 (by decide) (fun c18 => ?_) (fun c18 => ?_)
      · replace hf := (if_neg c18).symm.trans hf
        refine lv_iconst (v := 0) hx hb dX8_code_53 (by decide) ?_
        exact b_X8_code_54 hC hf hW (lv_sub hl [0, 1, 2, 3, 4, 5, 6] rfl)
      · replace hf := (if_pos c18).symm.trans hf
        refine lv_iconst (v := 3) hx hb dX8_code_49 (by decide) ?_
        refine lv_goto (tgt := 54) hx hb dX8_code_50 (by decide) ?_
        exact b_X8_code_54 hC hf hW (lv_sub hl [0, 1, 2, 3, 4, 5, 6] rfl)
    · replace hf := (if_pos c16).symm.trans hf
      refine lv_iconst (v := 2) hx hb dX8_code_34 (by decide) ?_
      refine lv_goto (tgt := 54) hx hb dX8_code_35 (by decide) ?_
      exact b_X8_code_54 hC hf hW (lv_sub hl [0, 1, 2, 3, 4, 5, 6] rfl)
  · replace hf := (if_pos c14).symm.trans hf
    refine lv_iconst (v := 1) hx hb dX8_code_9 (by decide) ?_
    refine lv_goto (tgt := 54) hx hb dX8_code_10 (by decide) ?_
    exact b_X8_code_54 hC hf hW (lv_sub hl [0, 1, 2, 3, 4, 5, 6] rfl)

abbrev w_X8_table (cI cZ cJ : ClassId) (a_t : Nat) (a_t_table : Nat) (a_t_parameters : Nat) (a_t_length : Nat) (a_t_newLength : Nat) (a_t_first : Nat) (a_t_now : Nat) (a_t_anew : Nat) (a_t_inputs : Nat) (a_t_met : Nat) (a_t_any : Nat) (a_t_number : Nat) (a_t_outAny : Nat) (a_t_out : Nat) (a_t_at : Nat) (a_t_in : Nat) (a_t_back : Nat) (a_t_register : Nat) (a_t_output : Nat) (a_t_calls : Nat) (a_t_latest : Nat) (a_t_differ : Nat) (t_code : Int32) (t_own : Int32) (t_count : Int32) (t_tableSize : Int32) (t_given : Int32) (t_known : Int32) (t_news : Int32) (t_depth : Int32) (t_steps : Int32) (t_taken : Int32) (t_shown : Int32) (t_outcome : Int32) (t_table : Nat → Int32) : va_W := [(a_t, .inr (8, [.int t_code, .int t_own, .int t_count, .ref a_t_parameters, .ref a_t_length, .ref a_t_newLength, .ref a_t_first, .ref a_t_now, .ref a_t_anew, .int t_tableSize, .ref a_t_table, .int t_given, .ref a_t_inputs, .int t_known, .ref a_t_met, .ref a_t_any, .ref a_t_number, .int t_news, .ref a_t_outAny, .ref a_t_out, .int t_depth, .int t_steps, .int t_taken, .int t_shown, .ref a_t_at, .ref a_t_in, .ref a_t_back, .ref a_t_register, .ref a_t_output, .ref a_t_calls, .ref a_t_latest, .ref a_t_differ, .int t_outcome])), (a_t_table, .inl (cI, 4, .inl t_table))]
abbrev r_X8_table : Room := { frames := 1, cells := 0, slots := 0, locals := 21 }
def f_X8_table_26 (x1 : Int32) (t_own : Int32) (z0 : Int32) (t_code : Int32) (t_count : Int32) (t_tableSize : Int32) (t_known : Int32) (t_table : Nat → Int32) : Option (Int32 × Int32 × Int32 × Int32 × Int32 × (Nat → Int32)) := if z0 ≤ 0 then (g_wr 4 t_table t_tableSize x1).bind (fun s2 => (f_X8_forget t_own t_count t_known).bind (fun o3 => some ((t_tableSize + 1), z0, o3.1, t_tableSize + 1, o3.2, s2))) else some (0, z0, t_count, t_tableSize, t_known, t_table)
set_option maxHeartbeats 4000000 in
set_option maxRecDepth 100000 in
theorem b_X8_table_26 {p : Program} {l : Launch} {e : Env} {s : State} {m : MethodId} {args : Array Value} {below : List Frame} {meth : Method} {c : Code} {tA : Nat} {dC : Nat → ClassId} {dI : Nat → Nat → Nat} {cI cZ cJ : ClassId} {A : Nat → Prop} {a_t : Nat} {a_t_table : Nat} {a_t_parameters : Nat} {a_t_length : Nat} {a_t_newLength : Nat} {a_t_first : Nat} {a_t_now : Nat} {a_t_anew : Nat} {a_t_inputs : Nat} {a_t_met : Nat} {a_t_any : Nat} {a_t_number : Nat} {a_t_outAny : Nat} {a_t_out : Nat} {a_t_at : Nat} {a_t_in : Nat} {a_t_back : Nat} {a_t_register : Nat} {a_t_output : Nat} {a_t_calls : Nat} {a_t_latest : Nat} {a_t_differ : Nat} {x1 : Int32} {t_own : Int32} {t_given : Int32} {t_news : Int32} {t_depth : Int32} {t_steps : Int32} {t_taken : Int32} {t_shown : Int32} {t_outcome : Int32} {z0 : Int32} {t_code : Int32} {t_count : Int32} {t_tableSize : Int32} {t_known : Int32} {t_table : Nat → Int32} {out : Int32 × Int32 × Int32 × Int32 × Int32 × (Nat → Int32)} (hC : g_C p s m meth c args cX8_table 2 (some .int) RX8) (hf : f_X8_table_26 x1 t_own z0 t_code t_count t_tableSize t_known t_table = some out) {H : Heap} {locs : List Loc} {ls : Array Slot} (hW : g_W tA dC dI cI cZ cJ A s H locs (w_X8_table cI cZ cJ a_t a_t_table a_t_parameters a_t_length a_t_newLength a_t_first a_t_now a_t_anew a_t_inputs a_t_met a_t_any a_t_number a_t_outAny a_t_out a_t_at a_t_in a_t_back a_t_register a_t_output a_t_calls a_t_latest a_t_differ t_code t_own t_count t_tableSize t_given t_known t_news t_depth t_steps t_taken t_shown t_outcome t_table)) (hl : lv_has ls 2 [(0, .ref a_t), (1, .int x1)]) : W p l e r_X8_table s m args below meth c H locs 0 0 (MQ below (g_Qi dC dI cI cZ cJ A (w_X8_table cI cZ cJ a_t a_t_table a_t_parameters a_t_length a_t_newLength a_t_first a_t_now a_t_anew a_t_inputs a_t_met a_t_any a_t_number a_t_outAny a_t_out a_t_at a_t_in a_t_back a_t_register a_t_output a_t_calls a_t_latest a_t_differ out.2.1 t_own out.2.2.1 out.2.2.2.1 t_given out.2.2.2.2.1 t_news t_depth t_steps t_taken t_shown t_outcome out.2.2.2.2.2) out.1) args s 0 0 A) (F0 m 26 ls [.int z0, .ref a_t]) := by
  have hx := hC.1
  have hb := hC.2.1
  have hown := hC.2.2.2.2.1
  have hts := hC.2.2.2.2.2.1
  unfold f_X8_table_26 at hf
  refine gs_put (ws' := w_X8_table cI cZ cJ a_t a_t_table a_t_parameters a_t_length a_t_newLength a_t_first a_t_now a_t_anew a_t_inputs a_t_met a_t_any a_t_number a_t_outAny a_t_out a_t_at a_t_in a_t_back a_t_register a_t_output a_t_calls a_t_latest a_t_differ z0 t_own t_count t_tableSize t_given t_known t_news t_depth t_steps t_taken t_shown t_outcome t_table) hC hW in_X8 tyX8_ok nmX8 0 0 rfl rfl (by decide) fl_X8_74 rfl rfl rfl (Nat.le_of_ble_eq_true rfl) rfl dX8_table_26 (fun H locs hW => ?_)
  refine lv_aload_n hx hb dX8_table_29 rfl (lv_at hl 0 rfl) ?_
  refine gs_get hC hW in_X8 0 0 rfl rfl (by decide) fl_X8_74 rfl dX8_table_30 ?_
  refine lv_if_le (tgt := 38) hx hb dX8_table_33 (by decide) (fun c1 => ?_) (fun c1 => ?_)
  · replace hf := (if_pos c1).symm.trans hf
    refine lv_aload_n hx hb dX8_table_38 rfl (lv_at hl 0 rfl) ?_
    refine gs_get hC hW in_X8 0 10 rfl rfl (by decide) fl_X8_28 rfl dX8_table_39 ?_
    refine lv_aload_n hx hb dX8_table_42 rfl (lv_at hl 0 rfl) ?_
    refine gs_get hC hW in_X8 0 9 rfl rfl (by decide) fl_X8_106 rfl dX8_table_43 ?_
    refine lv_iload_n hx hb dX8_table_46 rfl (lv_at hl 1 rfl) ?_
    obtain ⟨s2, h2, hf⟩ := g_bnd hf
    refine gs_iast (ws' := w_X8_table cI cZ cJ a_t a_t_table a_t_parameters a_t_length a_t_newLength a_t_first a_t_now a_t_anew a_t_inputs a_t_met a_t_any a_t_number a_t_outAny a_t_out a_t_at a_t_in a_t_back a_t_register a_t_output a_t_calls a_t_latest a_t_differ z0 t_own t_count t_tableSize t_given t_known t_news t_depth t_steps t_taken t_shown t_outcome s2) hC hW 1 h2 rfl rfl dX8_table_47 (fun H locs hW => ?_)
    refine lv_aload_n hx hb dX8_table_48 rfl (lv_at hl 0 rfl) ?_
    refine lv_dup hx hb dX8_table_49 rfl ?_
    refine gs_get hC hW in_X8 0 9 rfl rfl (by decide) fl_X8_106 rfl dX8_table_50 ?_
    refine lv_iconst (v := 1) hx hb dX8_table_53 (by decide) ?_
    refine lv_iadd hx hb dX8_table_54 ?_
    refine gs_put (ws' := w_X8_table cI cZ cJ a_t a_t_table a_t_parameters a_t_length a_t_newLength a_t_first a_t_now a_t_anew a_t_inputs a_t_met a_t_any a_t_number a_t_outAny a_t_out a_t_at a_t_in a_t_back a_t_register a_t_output a_t_calls a_t_latest a_t_differ z0 t_own t_count (t_tableSize + 1) t_given t_known t_news t_depth t_steps t_taken t_shown t_outcome s2) hC hW in_X8 tyX8_ok nmX8 0 9 rfl rfl (by decide) fl_X8_106 rfl rfl rfl (Nat.le_of_ble_eq_true rfl) rfl dX8_table_55 (fun H locs hW => ?_)
    refine lv_aload_n hx hb dX8_table_58 rfl (lv_at hl 0 rfl) ?_
    obtain ⟨o3, h3, hf⟩ := g_bnd hf
    refine gs_callVv (ws' := w_X8_table cI cZ cJ a_t a_t_table a_t_parameters a_t_length a_t_newLength a_t_first a_t_now a_t_anew a_t_inputs a_t_met a_t_any a_t_number a_t_outAny a_t_out a_t_at a_t_in a_t_back a_t_register a_t_output a_t_calls a_t_latest a_t_differ z0 t_own o3.1 (t_tableSize + 1) t_given o3.2 t_news t_depth t_steps t_taken t_shown t_outcome s2) hC hW (k_X8_forget l tA dC dI cI cZ cJ a_t a_t_parameters a_t_length a_t_newLength a_t_first a_t_now a_t_anew a_t_table a_t_inputs a_t_met a_t_any a_t_number a_t_outAny a_t_out a_t_at a_t_in a_t_back a_t_register a_t_output a_t_calls a_t_latest a_t_differ z0 t_own t_count (t_tableSize + 1) t_given t_known t_news t_depth t_steps t_taken t_shown t_outcome _ h3) yk_X8_forget lk_X8_88 iv_X8_forget ⟨rfl, rfl⟩ ⟨Nat.le_of_ble_eq_true rfl, Nat.le_of_ble_eq_true rfl⟩ hl.1 0 rfl rfl [0] [1] [1, 0] rfl rfl rfl rfl (by decide) rfl rfl rfl rfl (Nat.le_of_ble_eq_true rfl) dX8_table_59 ⟨Nat.zero_le _, Nat.zero_le _⟩ (fun H locs hW => ?_)
    refine lv_aload_n hx hb dX8_table_62 rfl (lv_at hl 0 rfl) ?_
    refine gs_get hC hW in_X8 0 9 rfl rfl (by decide) fl_X8_106 rfl dX8_table_63 ?_
    obtain rfl := Option.some.inj hf
    exact gs_ri hC hW rfl dX8_table_66
  · replace hf := (if_neg c1).symm.trans hf
    refine lv_iconst (v := 0) hx hb dX8_table_36 (by decide) ?_
    obtain rfl := Option.some.inj hf
    exact gs_ri hC hW rfl dX8_table_37
def f_X8_table (x1 : Int32) (t_code : Int32) (t_own : Int32) (t_count : Int32) (t_tableSize : Int32) (t_known : Int32) (t_table : Nat → Int32) : Option (Int32 × Int32 × Int32 × Int32 × Int32 × (Nat → Int32)) := (f_X8_isFunction x1 t_own).bind (fun o4 => if o4 = 0 then f_X8_table_26 x1 t_own 1 t_code t_count t_tableSize t_known t_table else if t_tableSize = 4 then f_X8_table_26 x1 t_own 2 t_code t_count t_tableSize t_known t_table else f_X8_table_26 x1 t_own 0 t_code t_count t_tableSize t_known t_table)
set_option maxHeartbeats 4000000 in
set_option maxRecDepth 100000 in
theorem k_X8_table (l : Launch) (tA : Nat) (dC : Nat → ClassId) (dI : Nat → Nat → Nat) (cI cZ cJ : ClassId) (a_t : Nat) (a_t_table : Nat) (a_t_parameters : Nat) (a_t_length : Nat) (a_t_newLength : Nat) (a_t_first : Nat) (a_t_now : Nat) (a_t_anew : Nat) (a_t_inputs : Nat) (a_t_met : Nat) (a_t_any : Nat) (a_t_number : Nat) (a_t_outAny : Nat) (a_t_out : Nat) (a_t_at : Nat) (a_t_in : Nat) (a_t_back : Nat) (a_t_register : Nat) (a_t_output : Nat) (a_t_calls : Nat) (a_t_latest : Nat) (a_t_differ : Nat) (x1 : Int32) (t_code : Int32) (t_own : Int32) (t_count : Int32) (t_tableSize : Int32) (t_given : Int32) (t_known : Int32) (t_news : Int32) (t_depth : Int32) (t_steps : Int32) (t_taken : Int32) (t_shown : Int32) (t_outcome : Int32) (t_table : Nat → Int32) (out : Int32 × Int32 × Int32 × Int32 × Int32 × (Nat → Int32)) (hf : f_X8_table x1 t_code t_own t_count t_tableSize t_known t_table = some out) : g_Mi l yX8_table cX8_table 2 (some .int) r_X8_table tA dC dI cI cZ cJ [.ref a_t, .int x1] (w_X8_table cI cZ cJ a_t a_t_table a_t_parameters a_t_length a_t_newLength a_t_first a_t_now a_t_anew a_t_inputs a_t_met a_t_any a_t_number a_t_outAny a_t_out a_t_at a_t_in a_t_back a_t_register a_t_output a_t_calls a_t_latest a_t_differ t_code t_own t_count t_tableSize t_given t_known t_news t_depth t_steps t_taken t_shown t_outcome t_table) (w_X8_table cI cZ cJ a_t a_t_table a_t_parameters a_t_length a_t_newLength a_t_first a_t_now a_t_anew a_t_inputs a_t_met a_t_any a_t_number a_t_outAny a_t_out a_t_at a_t_in a_t_back a_t_register a_t_output a_t_calls a_t_latest a_t_differ out.2.1 t_own out.2.2.1 out.2.2.2.1 t_given out.2.2.2.2.1 t_news t_depth t_steps t_taken t_shown t_outcome out.2.2.2.2.2) out.1 := by
  unfold f_X8_table at hf
  refine ge_i (by decide) (Nat.le_of_ble_eq_true rfl) (fun p e s m below meth c A H locs ls hC hW hl => ?_)
  have hC : g_C p s m meth c _ cX8_table 2 (some .int) RX8 := hC
  have hx := hC.1
  have hb := hC.2.1
  have hown := hC.2.2.2.2.1
  have hts := hC.2.2.2.2.2.1
  have hl : lv_has ls 2 [(0, .ref a_t), (1, .int x1)] := hl
  refine lv_aload_n hx hb dX8_table_0 rfl (lv_at hl 0 rfl) ?_
  refine lv_aload_n hx hb dX8_table_1 rfl (lv_at hl 0 rfl) ?_
  refine lv_iload_n hx hb dX8_table_2 rfl (lv_at hl 1 rfl) ?_
  obtain ⟨o4, h4, hf⟩ := g_bnd hf
  refine gs_callVi (ws' := w_X8_table cI cZ cJ a_t a_t_table a_t_parameters a_t_length a_t_newLength a_t_first a_t_now a_t_anew a_t_inputs a_t_met a_t_any a_t_number a_t_outAny a_t_out a_t_at a_t_in a_t_back a_t_register a_t_output a_t_calls a_t_latest a_t_differ t_code t_own t_count t_tableSize t_given t_known t_news t_depth t_steps t_taken t_shown t_outcome t_table) hC hW (k_X8_isFunction l tA dC dI cI cZ cJ a_t a_t_parameters a_t_length a_t_newLength a_t_first a_t_now a_t_anew a_t_table a_t_inputs a_t_met a_t_any a_t_number a_t_outAny a_t_out a_t_at a_t_in a_t_back a_t_register a_t_output a_t_calls a_t_latest a_t_differ x1 t_code t_own t_count t_tableSize t_given t_known t_news t_depth t_steps t_taken t_shown t_outcome _ h4) yk_X8_isFunction lk_X8_99 iv_X8_isFunction ⟨rfl, rfl⟩ ⟨Nat.le_of_ble_eq_true rfl, Nat.le_of_ble_eq_true rfl⟩ hl.1 0 rfl rfl [0] [1] [1, 0] rfl rfl rfl rfl (by decide) rfl rfl rfl rfl (Nat.le_of_ble_eq_true rfl) dX8_table_3 ⟨Nat.zero_le _, Nat.zero_le _⟩ (fun H locs hW => ?_)
  refine lv_if_ne (tgt := 13) hx hb dX8_table_6 (by decide) (fun c5 => ?_) (fun c5 => ?_)
  · replace hf := (if_neg c5).symm.trans hf
    refine lv_aload_n hx hb dX8_table_13 rfl (lv_at hl 0 rfl) ?_
    refine gs_get hC hW in_X8 0 9 rfl rfl (by decide) fl_X8_106 rfl dX8_table_14 ?_
    refine lv_iconst (v := 4) hx hb dX8_table_17 (by decide) ?_
    refine lv_icmp_ne (tgt := 25) hx hb dX8_table_18 (by decide) (fun c6 => ?_) (fun c6 => ?_)
    · replace hf := (if_neg c6).symm.trans hf
      refine lv_iconst (v := 0) hx hb dX8_table_25 (by decide) ?_
      exact b_X8_table_26 hC hf hW (lv_sub hl [0, 1] rfl)
    · replace hf := (if_pos c6).symm.trans hf
      refine lv_iconst (v := 2) hx hb dX8_table_21 (by decide) ?_
      refine lv_goto (tgt := 26) hx hb dX8_table_22 (by decide) ?_
      exact b_X8_table_26 hC hf hW (lv_sub hl [0, 1] rfl)
  · replace hf := (if_pos c5).symm.trans hf
    refine lv_iconst (v := 1) hx hb dX8_table_9 (by decide) ?_
    refine lv_goto (tgt := 26) hx hb dX8_table_10 (by decide) ?_
    exact b_X8_table_26 hC hf hW (lv_sub hl [0, 1] rfl)

abbrev w_X8_input (cI cZ cJ : ClassId) (a_t : Nat) (a_t_inputs : Nat) (a_t_parameters : Nat) (a_t_length : Nat) (a_t_newLength : Nat) (a_t_first : Nat) (a_t_now : Nat) (a_t_anew : Nat) (a_t_table : Nat) (a_t_met : Nat) (a_t_any : Nat) (a_t_number : Nat) (a_t_outAny : Nat) (a_t_out : Nat) (a_t_at : Nat) (a_t_in : Nat) (a_t_back : Nat) (a_t_register : Nat) (a_t_output : Nat) (a_t_calls : Nat) (a_t_latest : Nat) (a_t_differ : Nat) (t_code : Int32) (t_own : Int32) (t_count : Int32) (t_tableSize : Int32) (t_given : Int32) (t_known : Int32) (t_news : Int32) (t_depth : Int32) (t_steps : Int32) (t_taken : Int32) (t_shown : Int32) (t_outcome : Int32) (t_inputs : Nat → Int32) : va_W := [(a_t, .inr (8, [.int t_code, .int t_own, .int t_count, .ref a_t_parameters, .ref a_t_length, .ref a_t_newLength, .ref a_t_first, .ref a_t_now, .ref a_t_anew, .int t_tableSize, .ref a_t_table, .int t_given, .ref a_t_inputs, .int t_known, .ref a_t_met, .ref a_t_any, .ref a_t_number, .int t_news, .ref a_t_outAny, .ref a_t_out, .int t_depth, .int t_steps, .int t_taken, .int t_shown, .ref a_t_at, .ref a_t_in, .ref a_t_back, .ref a_t_register, .ref a_t_output, .ref a_t_calls, .ref a_t_latest, .ref a_t_differ, .int t_outcome])), (a_t_inputs, .inl (cI, 12, .inl t_inputs))]
abbrev r_X8_input : Room := { frames := 0, cells := 0, slots := 0, locals := 0 }
def f_X8_input (x1 : Int32) (t_code : Int32) (t_given : Int32) (t_inputs : Nat → Int32) : Option (Int32 × Int32 × Int32 × (Nat → Int32)) := if t_given = 12 then some ((-1), 0, t_given, t_inputs) else (g_wr 12 t_inputs t_given x1).bind (fun s2 => some ((t_given + 1), 0, t_given + 1, s2))
set_option maxHeartbeats 4000000 in
set_option maxRecDepth 100000 in
theorem k_X8_input (l : Launch) (tA : Nat) (dC : Nat → ClassId) (dI : Nat → Nat → Nat) (cI cZ cJ : ClassId) (a_t : Nat) (a_t_inputs : Nat) (a_t_parameters : Nat) (a_t_length : Nat) (a_t_newLength : Nat) (a_t_first : Nat) (a_t_now : Nat) (a_t_anew : Nat) (a_t_table : Nat) (a_t_met : Nat) (a_t_any : Nat) (a_t_number : Nat) (a_t_outAny : Nat) (a_t_out : Nat) (a_t_at : Nat) (a_t_in : Nat) (a_t_back : Nat) (a_t_register : Nat) (a_t_output : Nat) (a_t_calls : Nat) (a_t_latest : Nat) (a_t_differ : Nat) (x1 : Int32) (t_code : Int32) (t_own : Int32) (t_count : Int32) (t_tableSize : Int32) (t_given : Int32) (t_known : Int32) (t_news : Int32) (t_depth : Int32) (t_steps : Int32) (t_taken : Int32) (t_shown : Int32) (t_outcome : Int32) (t_inputs : Nat → Int32) (out : Int32 × Int32 × Int32 × (Nat → Int32)) (hf : f_X8_input x1 t_code t_given t_inputs = some out) : g_Mi l yX8_input cX8_input 2 (some .int) r_X8_input tA dC dI cI cZ cJ [.ref a_t, .int x1] (w_X8_input cI cZ cJ a_t a_t_inputs a_t_parameters a_t_length a_t_newLength a_t_first a_t_now a_t_anew a_t_table a_t_met a_t_any a_t_number a_t_outAny a_t_out a_t_at a_t_in a_t_back a_t_register a_t_output a_t_calls a_t_latest a_t_differ t_code t_own t_count t_tableSize t_given t_known t_news t_depth t_steps t_taken t_shown t_outcome t_inputs) (w_X8_input cI cZ cJ a_t a_t_inputs a_t_parameters a_t_length a_t_newLength a_t_first a_t_now a_t_anew a_t_table a_t_met a_t_any a_t_number a_t_outAny a_t_out a_t_at a_t_in a_t_back a_t_register a_t_output a_t_calls a_t_latest a_t_differ out.2.1 t_own t_count t_tableSize out.2.2.1 t_known t_news t_depth t_steps t_taken t_shown t_outcome out.2.2.2) out.1 := by
  unfold f_X8_input at hf
  refine ge_i (by decide) (Nat.le_of_ble_eq_true rfl) (fun p e s m below meth c A H locs ls hC hW hl => ?_)
  have hC : g_C p s m meth c _ cX8_input 2 (some .int) RX8 := hC
  have hx := hC.1
  have hb := hC.2.1
  have hown := hC.2.2.2.2.1
  have hts := hC.2.2.2.2.2.1
  have hl : lv_has ls 2 [(0, .ref a_t), (1, .int x1)] := hl
  refine lv_aload_n hx hb dX8_input_0 rfl (lv_at hl 0 rfl) ?_
  refine lv_iconst (v := 0) hx hb dX8_input_1 (by decide) ?_
  refine gs_put (ws' := w_X8_input cI cZ cJ a_t a_t_inputs a_t_parameters a_t_length a_t_newLength a_t_first a_t_now a_t_anew a_t_table a_t_met a_t_any a_t_number a_t_outAny a_t_out a_t_at a_t_in a_t_back a_t_register a_t_output a_t_calls a_t_latest a_t_differ 0 t_own t_count t_tableSize t_given t_known t_news t_depth t_steps t_taken t_shown t_outcome t_inputs) hC hW in_X8 tyX8_ok nmX8 0 0 rfl rfl (by decide) fl_X8_74 rfl rfl rfl (Nat.le_of_ble_eq_true rfl) rfl dX8_input_2 (fun H locs hW => ?_)
  refine lv_aload_n hx hb dX8_input_5 rfl (lv_at hl 0 rfl) ?_
  refine gs_get hC hW in_X8 0 11 rfl rfl (by decide) fl_X8_109 rfl dX8_input_6 ?_
  refine lv_bipush (v := 12) hx hb dX8_input_9 (by decide) ?_
  refine lv_icmp_ne (tgt := 16) hx hb dX8_input_11 (by decide) (fun c1 => ?_) (fun c1 => ?_)
  · replace hf := (if_neg c1).symm.trans hf
    refine lv_aload_n hx hb dX8_input_16 rfl (lv_at hl 0 rfl) ?_
    refine gs_get hC hW in_X8 0 12 rfl rfl (by decide) fl_X8_31 rfl dX8_input_17 ?_
    refine lv_aload_n hx hb dX8_input_20 rfl (lv_at hl 0 rfl) ?_
    refine gs_get hC hW in_X8 0 11 rfl rfl (by decide) fl_X8_109 rfl dX8_input_21 ?_
    refine lv_iload_n hx hb dX8_input_24 rfl (lv_at hl 1 rfl) ?_
    obtain ⟨s2, h2, hf⟩ := g_bnd hf
    refine gs_iast (ws' := w_X8_input cI cZ cJ a_t a_t_inputs a_t_parameters a_t_length a_t_newLength a_t_first a_t_now a_t_anew a_t_table a_t_met a_t_any a_t_number a_t_outAny a_t_out a_t_at a_t_in a_t_back a_t_register a_t_output a_t_calls a_t_latest a_t_differ 0 t_own t_count t_tableSize t_given t_known t_news t_depth t_steps t_taken t_shown t_outcome s2) hC hW 1 h2 rfl rfl dX8_input_25 (fun H locs hW => ?_)
    refine lv_aload_n hx hb dX8_input_26 rfl (lv_at hl 0 rfl) ?_
    refine lv_dup hx hb dX8_input_27 rfl ?_
    refine gs_get hC hW in_X8 0 11 rfl rfl (by decide) fl_X8_109 rfl dX8_input_28 ?_
    refine lv_iconst (v := 1) hx hb dX8_input_31 (by decide) ?_
    refine lv_iadd hx hb dX8_input_32 ?_
    refine gs_put (ws' := w_X8_input cI cZ cJ a_t a_t_inputs a_t_parameters a_t_length a_t_newLength a_t_first a_t_now a_t_anew a_t_table a_t_met a_t_any a_t_number a_t_outAny a_t_out a_t_at a_t_in a_t_back a_t_register a_t_output a_t_calls a_t_latest a_t_differ 0 t_own t_count t_tableSize (t_given + 1) t_known t_news t_depth t_steps t_taken t_shown t_outcome s2) hC hW in_X8 tyX8_ok nmX8 0 11 rfl rfl (by decide) fl_X8_109 rfl rfl rfl (Nat.le_of_ble_eq_true rfl) rfl dX8_input_33 (fun H locs hW => ?_)
    refine lv_aload_n hx hb dX8_input_36 rfl (lv_at hl 0 rfl) ?_
    refine gs_get hC hW in_X8 0 11 rfl rfl (by decide) fl_X8_109 rfl dX8_input_37 ?_
    obtain rfl := Option.some.inj hf
    exact gs_ri hC hW rfl dX8_input_40
  · replace hf := (if_pos c1).symm.trans hf
    refine lv_iconst (v := (-1)) hx hb dX8_input_14 (by decide) ?_
    obtain rfl := Option.some.inj hf
    exact gs_ri hC hW rfl dX8_input_15

abbrev w_X8_empty (cI cZ cJ : ClassId) (a_t : Nat) (a_t_parameters : Nat) (a_t_length : Nat) (a_t_newLength : Nat) (a_t_first : Nat) (a_t_now : Nat) (a_t_anew : Nat) (a_t_table : Nat) (a_t_inputs : Nat) (a_t_met : Nat) (a_t_any : Nat) (a_t_number : Nat) (a_t_outAny : Nat) (a_t_out : Nat) (a_t_at : Nat) (a_t_in : Nat) (a_t_back : Nat) (a_t_register : Nat) (a_t_output : Nat) (a_t_calls : Nat) (a_t_latest : Nat) (a_t_differ : Nat) (t_code : Int32) (t_own : Int32) (t_count : Int32) (t_tableSize : Int32) (t_given : Int32) (t_known : Int32) (t_news : Int32) (t_depth : Int32) (t_steps : Int32) (t_taken : Int32) (t_shown : Int32) (t_outcome : Int32) : va_W := [(a_t, .inr (8, [.int t_code, .int t_own, .int t_count, .ref a_t_parameters, .ref a_t_length, .ref a_t_newLength, .ref a_t_first, .ref a_t_now, .ref a_t_anew, .int t_tableSize, .ref a_t_table, .int t_given, .ref a_t_inputs, .int t_known, .ref a_t_met, .ref a_t_any, .ref a_t_number, .int t_news, .ref a_t_outAny, .ref a_t_out, .int t_depth, .int t_steps, .int t_taken, .int t_shown, .ref a_t_at, .ref a_t_in, .ref a_t_back, .ref a_t_register, .ref a_t_output, .ref a_t_calls, .ref a_t_latest, .ref a_t_differ, .int t_outcome]))]
abbrev r_X8_empty : Room := { frames := 0, cells := 0, slots := 0, locals := 0 }
def f_X8_empty (t_code : Int32) (t_given : Int32) : Option (Int32 × Int32) := some (0, 0)
set_option maxHeartbeats 4000000 in
set_option maxRecDepth 100000 in
theorem k_X8_empty (l : Launch) (tA : Nat) (dC : Nat → ClassId) (dI : Nat → Nat → Nat) (cI cZ cJ : ClassId) (a_t : Nat) (a_t_parameters : Nat) (a_t_length : Nat) (a_t_newLength : Nat) (a_t_first : Nat) (a_t_now : Nat) (a_t_anew : Nat) (a_t_table : Nat) (a_t_inputs : Nat) (a_t_met : Nat) (a_t_any : Nat) (a_t_number : Nat) (a_t_outAny : Nat) (a_t_out : Nat) (a_t_at : Nat) (a_t_in : Nat) (a_t_back : Nat) (a_t_register : Nat) (a_t_output : Nat) (a_t_calls : Nat) (a_t_latest : Nat) (a_t_differ : Nat) (t_code : Int32) (t_own : Int32) (t_count : Int32) (t_tableSize : Int32) (t_given : Int32) (t_known : Int32) (t_news : Int32) (t_depth : Int32) (t_steps : Int32) (t_taken : Int32) (t_shown : Int32) (t_outcome : Int32) (out : Int32 × Int32) (hf : f_X8_empty t_code t_given = some out) : g_Mv l yX8_empty cX8_empty 1 (none : Option Jvm.ClassFile.FieldType) r_X8_empty tA dC dI cI cZ cJ [.ref a_t] (w_X8_empty cI cZ cJ a_t a_t_parameters a_t_length a_t_newLength a_t_first a_t_now a_t_anew a_t_table a_t_inputs a_t_met a_t_any a_t_number a_t_outAny a_t_out a_t_at a_t_in a_t_back a_t_register a_t_output a_t_calls a_t_latest a_t_differ t_code t_own t_count t_tableSize t_given t_known t_news t_depth t_steps t_taken t_shown t_outcome) (w_X8_empty cI cZ cJ a_t a_t_parameters a_t_length a_t_newLength a_t_first a_t_now a_t_anew a_t_table a_t_inputs a_t_met a_t_any a_t_number a_t_outAny a_t_out a_t_at a_t_in a_t_back a_t_register a_t_output a_t_calls a_t_latest a_t_differ out.1 t_own t_count t_tableSize out.2 t_known t_news t_depth t_steps t_taken t_shown t_outcome) := by
  unfold f_X8_empty at hf
  refine ge_v (by decide) (Nat.le_of_ble_eq_true rfl) (fun p e s m below meth c A H locs ls hC hW hl => ?_)
  have hC : g_C p s m meth c _ cX8_empty 1 (none : Option Jvm.ClassFile.FieldType) RX8 := hC
  have hx := hC.1
  have hb := hC.2.1
  have hown := hC.2.2.2.2.1
  have hts := hC.2.2.2.2.2.1
  have hl : lv_has ls 1 [(0, .ref a_t)] := hl
  refine lv_aload_n hx hb dX8_empty_0 rfl (lv_at hl 0 rfl) ?_
  refine lv_iconst (v := 0) hx hb dX8_empty_1 (by decide) ?_
  refine gs_put (ws' := w_X8_empty cI cZ cJ a_t a_t_parameters a_t_length a_t_newLength a_t_first a_t_now a_t_anew a_t_table a_t_inputs a_t_met a_t_any a_t_number a_t_outAny a_t_out a_t_at a_t_in a_t_back a_t_register a_t_output a_t_calls a_t_latest a_t_differ 0 t_own t_count t_tableSize t_given t_known t_news t_depth t_steps t_taken t_shown t_outcome) hC hW in_X8 tyX8_ok nmX8 0 0 rfl rfl (by decide) fl_X8_74 rfl rfl rfl (Nat.le_of_ble_eq_true rfl) rfl dX8_empty_2 (fun H locs hW => ?_)
  refine lv_aload_n hx hb dX8_empty_5 rfl (lv_at hl 0 rfl) ?_
  refine lv_iconst (v := 0) hx hb dX8_empty_6 (by decide) ?_
  refine gs_put (ws' := w_X8_empty cI cZ cJ a_t a_t_parameters a_t_length a_t_newLength a_t_first a_t_now a_t_anew a_t_table a_t_inputs a_t_met a_t_any a_t_number a_t_outAny a_t_out a_t_at a_t_in a_t_back a_t_register a_t_output a_t_calls a_t_latest a_t_differ 0 t_own t_count t_tableSize 0 t_known t_news t_depth t_steps t_taken t_shown t_outcome) hC hW in_X8 tyX8_ok nmX8 0 11 rfl rfl (by decide) fl_X8_109 rfl rfl rfl (Nat.le_of_ble_eq_true rfl) rfl dX8_empty_7 (fun H locs hW => ?_)
  obtain rfl := Option.some.inj hf
  exact gs_rv hC hW rfl dX8_empty_10

abbrev w_X8_isNumber (cI cZ cJ : ClassId) : va_W := []
abbrev r_X8_isNumber : Room := { frames := 0, cells := 0, slots := 0, locals := 0 }
def f_X8_isNumber (x0 : Int32) : Option (Int32) := if (x0 &&& 7) = 7 then some 1 else some 0
set_option maxHeartbeats 4000000 in
set_option maxRecDepth 100000 in
theorem k_X8_isNumber (l : Launch) (tA : Nat) (dC : Nat → ClassId) (dI : Nat → Nat → Nat) (cI cZ cJ : ClassId) (x0 : Int32) (out : Int32) (hf : f_X8_isNumber x0 = some out) : g_Mi l yX8_isNumber cX8_isNumber 1 (some .boolean) r_X8_isNumber tA dC dI cI cZ cJ [.int x0] (w_X8_isNumber cI cZ cJ ) (w_X8_isNumber cI cZ cJ ) out := by
  unfold f_X8_isNumber at hf
  refine ge_i (by decide) (Nat.le_of_ble_eq_true rfl) (fun p e s m below meth c A H locs ls hC hW hl => ?_)
  have hC : g_C p s m meth c _ cX8_isNumber 1 (some .boolean) RX8 := hC
  have hx := hC.1
  have hb := hC.2.1
  have hown := hC.2.2.2.2.1
  have hts := hC.2.2.2.2.2.1
  have hl : lv_has ls 1 [(0, .int x0)] := hl
  refine lv_iload_n hx hb dX8_isNumber_0 rfl (lv_at hl 0 rfl) ?_
  refine lv_bipush (v := 7) hx hb dX8_isNumber_1 (by decide) ?_
  refine lv_iand hx hb dX8_isNumber_3 ?_
  refine lv_bipush (v := 7) hx hb dX8_isNumber_4 (by decide) ?_
  refine lv_icmp_ne (tgt := 13) hx hb dX8_isNumber_6 (by decide) (fun c1 => ?_) (fun c1 => ?_)
  · replace hf := (if_neg c1).symm.trans hf
    refine lv_iconst (v := 0) hx hb dX8_isNumber_13 (by decide) ?_
    obtain rfl := Option.some.inj hf
    exact gs_rz hC hW rfl g_n0 dX8_isNumber_14
  · replace hf := (if_pos c1).symm.trans hf
    refine lv_iconst (v := 1) hx hb dX8_isNumber_9 (by decide) ?_
    refine lv_goto (tgt := 14) hx hb dX8_isNumber_10 (by decide) ?_
    obtain rfl := Option.some.inj hf
    exact gs_rz hC hW rfl g_n1 dX8_isNumber_14

abbrev w_X8_has (cI cZ cJ : ClassId) (a_t : Nat) (a_t_any : Nat) (a_t_parameters : Nat) (a_t_length : Nat) (a_t_newLength : Nat) (a_t_first : Nat) (a_t_now : Nat) (a_t_anew : Nat) (a_t_table : Nat) (a_t_inputs : Nat) (a_t_met : Nat) (a_t_number : Nat) (a_t_outAny : Nat) (a_t_out : Nat) (a_t_at : Nat) (a_t_in : Nat) (a_t_back : Nat) (a_t_register : Nat) (a_t_output : Nat) (a_t_calls : Nat) (a_t_latest : Nat) (a_t_differ : Nat) (t_code : Int32) (t_own : Int32) (t_count : Int32) (t_tableSize : Int32) (t_given : Int32) (t_known : Int32) (t_news : Int32) (t_depth : Int32) (t_steps : Int32) (t_taken : Int32) (t_shown : Int32) (t_outcome : Int32) (t_any : Nat → Int32) : va_W := [(a_t, .inr (8, [.int t_code, .int t_own, .int t_count, .ref a_t_parameters, .ref a_t_length, .ref a_t_newLength, .ref a_t_first, .ref a_t_now, .ref a_t_anew, .int t_tableSize, .ref a_t_table, .int t_given, .ref a_t_inputs, .int t_known, .ref a_t_met, .ref a_t_any, .ref a_t_number, .int t_news, .ref a_t_outAny, .ref a_t_out, .int t_depth, .int t_steps, .int t_taken, .int t_shown, .ref a_t_at, .ref a_t_in, .ref a_t_back, .ref a_t_register, .ref a_t_output, .ref a_t_calls, .ref a_t_latest, .ref a_t_differ, .int t_outcome])), (a_t_any, .inl (cZ, 1224, .inl t_any))]
abbrev r_X8_has : Room := { frames := 1, cells := 0, slots := 0, locals := 20 }
def f_X8_has (x1 : Int32) (x2 : Int32) (t_any : Nat → Int32) : Option (Int32) := (f_X8_isNumber x2).bind (fun o1 => if o1 = 0 then (g_rd 1224 t_any ((6 * x1) + (x2 &&& 7))).bind (fun v3 => if v3 = 0 then some 1 else some 0) else some 1)
set_option maxHeartbeats 4000000 in
set_option maxRecDepth 100000 in
theorem k_X8_has (l : Launch) (tA : Nat) (dC : Nat → ClassId) (dI : Nat → Nat → Nat) (cI cZ cJ : ClassId) (a_t : Nat) (a_t_any : Nat) (a_t_parameters : Nat) (a_t_length : Nat) (a_t_newLength : Nat) (a_t_first : Nat) (a_t_now : Nat) (a_t_anew : Nat) (a_t_table : Nat) (a_t_inputs : Nat) (a_t_met : Nat) (a_t_number : Nat) (a_t_outAny : Nat) (a_t_out : Nat) (a_t_at : Nat) (a_t_in : Nat) (a_t_back : Nat) (a_t_register : Nat) (a_t_output : Nat) (a_t_calls : Nat) (a_t_latest : Nat) (a_t_differ : Nat) (x1 : Int32) (x2 : Int32) (t_code : Int32) (t_own : Int32) (t_count : Int32) (t_tableSize : Int32) (t_given : Int32) (t_known : Int32) (t_news : Int32) (t_depth : Int32) (t_steps : Int32) (t_taken : Int32) (t_shown : Int32) (t_outcome : Int32) (t_any : Nat → Int32) (out : Int32) (hf : f_X8_has x1 x2 t_any = some out) : g_Mi l yX8_has cX8_has 3 (some .boolean) r_X8_has tA dC dI cI cZ cJ [.ref a_t, .int x1, .int x2] (w_X8_has cI cZ cJ a_t a_t_any a_t_parameters a_t_length a_t_newLength a_t_first a_t_now a_t_anew a_t_table a_t_inputs a_t_met a_t_number a_t_outAny a_t_out a_t_at a_t_in a_t_back a_t_register a_t_output a_t_calls a_t_latest a_t_differ t_code t_own t_count t_tableSize t_given t_known t_news t_depth t_steps t_taken t_shown t_outcome t_any) (w_X8_has cI cZ cJ a_t a_t_any a_t_parameters a_t_length a_t_newLength a_t_first a_t_now a_t_anew a_t_table a_t_inputs a_t_met a_t_number a_t_outAny a_t_out a_t_at a_t_in a_t_back a_t_register a_t_output a_t_calls a_t_latest a_t_differ t_code t_own t_count t_tableSize t_given t_known t_news t_depth t_steps t_taken t_shown t_outcome t_any) out := by
  unfold f_X8_has at hf
  refine ge_i (by decide) (Nat.le_of_ble_eq_true rfl) (fun p e s m below meth c A H locs ls hC hW hl => ?_)
  have hC : g_C p s m meth c _ cX8_has 3 (some .boolean) RX8 := hC
  have hx := hC.1
  have hb := hC.2.1
  have hown := hC.2.2.2.2.1
  have hts := hC.2.2.2.2.2.1
  have hl : lv_has ls 3 [(0, .ref a_t), (1, .int x1), (2, .int x2)] := hl
  refine lv_iload_n hx hb dX8_has_0 rfl (lv_at hl 2 rfl) ?_
  obtain ⟨o1, h1, hf⟩ := g_bnd hf
  refine gs_callSi (ws' := w_X8_has cI cZ cJ a_t a_t_any a_t_parameters a_t_length a_t_newLength a_t_first a_t_now a_t_anew a_t_table a_t_inputs a_t_met a_t_number a_t_outAny a_t_out a_t_at a_t_in a_t_back a_t_register a_t_output a_t_calls a_t_latest a_t_differ t_code t_own t_count t_tableSize t_given t_known t_news t_depth t_steps t_taken t_shown t_outcome t_any) hC hW (k_X8_isNumber l tA dC dI cI cZ cJ x2 _ h1) yk_X8_isNumber lk_X8_112 is_X8_isNumber ⟨rfl, rfl⟩ ⟨Nat.le_of_ble_eq_true rfl, Nat.le_of_ble_eq_true rfl⟩ hl.1 [] [0, 1] [0, 1] rfl rfl rfl rfl (by decide) rfl rfl rfl rfl (Nat.le_of_ble_eq_true rfl) dX8_has_1 ⟨Nat.zero_le _, Nat.zero_le _⟩ (fun H locs hW => ?_)
  refine lv_if_ne (tgt := 24) hx hb dX8_has_4 (by decide) (fun c2 => ?_) (fun c2 => ?_)
  · replace hf := (if_neg c2).symm.trans hf
    refine lv_iconst (v := 1) hx hb dX8_has_24 (by decide) ?_
    refine lv_goto (tgt := 29) hx hb dX8_has_25 (by decide) ?_
    obtain rfl := Option.some.inj hf
    exact gs_rz hC hW rfl g_n1 dX8_has_29
  · replace hf := (if_pos c2).symm.trans hf
    refine lv_aload_n hx hb dX8_has_7 rfl (lv_at hl 0 rfl) ?_
    refine gs_get hC hW in_X8 0 15 rfl rfl (by decide) fl_X8_38 rfl dX8_has_8 ?_
    refine lv_bipush (v := 6) hx hb dX8_has_11 (by decide) ?_
    refine lv_iload_n hx hb dX8_has_13 rfl (lv_at hl 1 rfl) ?_
    refine lv_imul hx hb dX8_has_14 ?_
    refine lv_iload_n hx hb dX8_has_15 rfl (lv_at hl 2 rfl) ?_
    refine lv_bipush (v := 7) hx hb dX8_has_16 (by decide) ?_
    refine lv_iand hx hb dX8_has_18 ?_
    refine lv_iadd hx hb dX8_has_19 ?_
    obtain ⟨v3, h3, hf⟩ := g_bnd hf
    refine gs_zald hC hW 1 h3 rfl dX8_has_20 ?_
    refine lv_if_ne (tgt := 28) hx hb dX8_has_21 (by decide) (fun c4 => ?_) (fun c4 => ?_)
    · replace hf := (if_neg c4).symm.trans hf
      refine lv_iconst (v := 0) hx hb dX8_has_28 (by decide) ?_
      obtain rfl := Option.some.inj hf
      exact gs_rz hC hW rfl g_n0 dX8_has_29
    · replace hf := (if_pos c4).symm.trans hf
      refine lv_iconst (v := 1) hx hb dX8_has_24 (by decide) ?_
      refine lv_goto (tgt := 29) hx hb dX8_has_25 (by decide) ?_
      obtain rfl := Option.some.inj hf
      exact gs_rz hC hW rfl g_n1 dX8_has_29

abbrev w_X8_valueAt (cI cZ cJ : ClassId) (a_t : Nat) (a_t_number : Nat) (a_t_parameters : Nat) (a_t_length : Nat) (a_t_newLength : Nat) (a_t_first : Nat) (a_t_now : Nat) (a_t_anew : Nat) (a_t_table : Nat) (a_t_inputs : Nat) (a_t_met : Nat) (a_t_any : Nat) (a_t_outAny : Nat) (a_t_out : Nat) (a_t_at : Nat) (a_t_in : Nat) (a_t_back : Nat) (a_t_register : Nat) (a_t_output : Nat) (a_t_calls : Nat) (a_t_latest : Nat) (a_t_differ : Nat) (t_code : Int32) (t_own : Int32) (t_count : Int32) (t_tableSize : Int32) (t_given : Int32) (t_known : Int32) (t_news : Int32) (t_depth : Int32) (t_steps : Int32) (t_taken : Int32) (t_shown : Int32) (t_outcome : Int32) (t_number : Nat → Int32) : va_W := [(a_t, .inr (8, [.int t_code, .int t_own, .int t_count, .ref a_t_parameters, .ref a_t_length, .ref a_t_newLength, .ref a_t_first, .ref a_t_now, .ref a_t_anew, .int t_tableSize, .ref a_t_table, .int t_given, .ref a_t_inputs, .int t_known, .ref a_t_met, .ref a_t_any, .ref a_t_number, .int t_news, .ref a_t_outAny, .ref a_t_out, .int t_depth, .int t_steps, .int t_taken, .int t_shown, .ref a_t_at, .ref a_t_in, .ref a_t_back, .ref a_t_register, .ref a_t_output, .ref a_t_calls, .ref a_t_latest, .ref a_t_differ, .int t_outcome])), (a_t_number, .inl (cI, 1224, .inl t_number))]
abbrev r_X8_valueAt : Room := { frames := 1, cells := 0, slots := 0, locals := 20 }
def f_X8_valueAt (x1 : Int32) (x2 : Int32) (t_number : Nat → Int32) : Option (Int32) := (f_X8_isNumber x2).bind (fun o1 => if o1 = 0 then (g_rd 1224 t_number ((6 * x1) + (x2 &&& 7))).bind (fun v3 => some v3) else some (x2 >>> (3 &&& 31)))
set_option maxHeartbeats 4000000 in
set_option maxRecDepth 100000 in
theorem k_X8_valueAt (l : Launch) (tA : Nat) (dC : Nat → ClassId) (dI : Nat → Nat → Nat) (cI cZ cJ : ClassId) (a_t : Nat) (a_t_number : Nat) (a_t_parameters : Nat) (a_t_length : Nat) (a_t_newLength : Nat) (a_t_first : Nat) (a_t_now : Nat) (a_t_anew : Nat) (a_t_table : Nat) (a_t_inputs : Nat) (a_t_met : Nat) (a_t_any : Nat) (a_t_outAny : Nat) (a_t_out : Nat) (a_t_at : Nat) (a_t_in : Nat) (a_t_back : Nat) (a_t_register : Nat) (a_t_output : Nat) (a_t_calls : Nat) (a_t_latest : Nat) (a_t_differ : Nat) (x1 : Int32) (x2 : Int32) (t_code : Int32) (t_own : Int32) (t_count : Int32) (t_tableSize : Int32) (t_given : Int32) (t_known : Int32) (t_news : Int32) (t_depth : Int32) (t_steps : Int32) (t_taken : Int32) (t_shown : Int32) (t_outcome : Int32) (t_number : Nat → Int32) (out : Int32) (hf : f_X8_valueAt x1 x2 t_number = some out) : g_Mi l yX8_valueAt cX8_valueAt 3 (some .int) r_X8_valueAt tA dC dI cI cZ cJ [.ref a_t, .int x1, .int x2] (w_X8_valueAt cI cZ cJ a_t a_t_number a_t_parameters a_t_length a_t_newLength a_t_first a_t_now a_t_anew a_t_table a_t_inputs a_t_met a_t_any a_t_outAny a_t_out a_t_at a_t_in a_t_back a_t_register a_t_output a_t_calls a_t_latest a_t_differ t_code t_own t_count t_tableSize t_given t_known t_news t_depth t_steps t_taken t_shown t_outcome t_number) (w_X8_valueAt cI cZ cJ a_t a_t_number a_t_parameters a_t_length a_t_newLength a_t_first a_t_now a_t_anew a_t_table a_t_inputs a_t_met a_t_any a_t_outAny a_t_out a_t_at a_t_in a_t_back a_t_register a_t_output a_t_calls a_t_latest a_t_differ t_code t_own t_count t_tableSize t_given t_known t_news t_depth t_steps t_taken t_shown t_outcome t_number) out := by
  unfold f_X8_valueAt at hf
  refine ge_i (by decide) (Nat.le_of_ble_eq_true rfl) (fun p e s m below meth c A H locs ls hC hW hl => ?_)
  have hC : g_C p s m meth c _ cX8_valueAt 3 (some .int) RX8 := hC
  have hx := hC.1
  have hb := hC.2.1
  have hown := hC.2.2.2.2.1
  have hts := hC.2.2.2.2.2.1
  have hl : lv_has ls 3 [(0, .ref a_t), (1, .int x1), (2, .int x2)] := hl
  refine lv_iload_n hx hb dX8_valueAt_0 rfl (lv_at hl 2 rfl) ?_
  obtain ⟨o1, h1, hf⟩ := g_bnd hf
  refine gs_callSi (ws' := w_X8_valueAt cI cZ cJ a_t a_t_number a_t_parameters a_t_length a_t_newLength a_t_first a_t_now a_t_anew a_t_table a_t_inputs a_t_met a_t_any a_t_outAny a_t_out a_t_at a_t_in a_t_back a_t_register a_t_output a_t_calls a_t_latest a_t_differ t_code t_own t_count t_tableSize t_given t_known t_news t_depth t_steps t_taken t_shown t_outcome t_number) hC hW (k_X8_isNumber l tA dC dI cI cZ cJ x2 _ h1) yk_X8_isNumber lk_X8_112 is_X8_isNumber ⟨rfl, rfl⟩ ⟨Nat.le_of_ble_eq_true rfl, Nat.le_of_ble_eq_true rfl⟩ hl.1 [] [0, 1] [0, 1] rfl rfl rfl rfl (by decide) rfl rfl rfl rfl (Nat.le_of_ble_eq_true rfl) dX8_valueAt_1 ⟨Nat.zero_le _, Nat.zero_le _⟩ (fun H locs hW => ?_)
  refine lv_if_eq (tgt := 13) hx hb dX8_valueAt_4 (by decide) (fun c2 => ?_) (fun c2 => ?_)
  · replace hf := (if_pos c2).symm.trans hf
    refine lv_aload_n hx hb dX8_valueAt_13 rfl (lv_at hl 0 rfl) ?_
    refine gs_get hC hW in_X8 0 16 rfl rfl (by decide) fl_X8_41 rfl dX8_valueAt_14 ?_
    refine lv_bipush (v := 6) hx hb dX8_valueAt_17 (by decide) ?_
    refine lv_iload_n hx hb dX8_valueAt_19 rfl (lv_at hl 1 rfl) ?_
    refine lv_imul hx hb dX8_valueAt_20 ?_
    refine lv_iload_n hx hb dX8_valueAt_21 rfl (lv_at hl 2 rfl) ?_
    refine lv_bipush (v := 7) hx hb dX8_valueAt_22 (by decide) ?_
    refine lv_iand hx hb dX8_valueAt_24 ?_
    refine lv_iadd hx hb dX8_valueAt_25 ?_
    obtain ⟨v3, h3, hf⟩ := g_bnd hf
    refine gs_iald hC hW 1 h3 rfl dX8_valueAt_26 ?_
    obtain rfl := Option.some.inj hf
    exact gs_ri hC hW rfl dX8_valueAt_27
  · replace hf := (if_neg c2).symm.trans hf
    refine lv_iload_n hx hb dX8_valueAt_7 rfl (lv_at hl 2 rfl) ?_
    refine lv_iconst (v := 3) hx hb dX8_valueAt_8 (by decide) ?_
    refine lv_ishr hx hb dX8_valueAt_9 ?_
    refine lv_goto (tgt := 27) hx hb dX8_valueAt_10 (by decide) ?_
    obtain rfl := Option.some.inj hf
    exact gs_ri hC hW rfl dX8_valueAt_27

abbrev w_X8_come (cI cZ cJ : ClassId) (a_t : Nat) (a_t_length : Nat) (a_t_met : Nat) (a_t_any : Nat) (a_t_number : Nat) (a_t_outAny : Nat) (a_t_out : Nat) (a_t_parameters : Nat) (a_t_newLength : Nat) (a_t_first : Nat) (a_t_now : Nat) (a_t_anew : Nat) (a_t_table : Nat) (a_t_inputs : Nat) (a_t_at : Nat) (a_t_in : Nat) (a_t_back : Nat) (a_t_register : Nat) (a_t_output : Nat) (a_t_calls : Nat) (a_t_latest : Nat) (a_t_differ : Nat) (t_code : Int32) (t_own : Int32) (t_count : Int32) (t_tableSize : Int32) (t_given : Int32) (t_known : Int32) (t_news : Int32) (t_depth : Int32) (t_steps : Int32) (t_taken : Int32) (t_shown : Int32) (t_outcome : Int32) (t_length : Nat → Int32) (t_met : Nat → Int32) (t_any : Nat → Int32) (t_number : Nat → Int32) (t_outAny : Nat → Int32) (t_out : Nat → Int32) : va_W := [(a_t, .inr (8, [.int t_code, .int t_own, .int t_count, .ref a_t_parameters, .ref a_t_length, .ref a_t_newLength, .ref a_t_first, .ref a_t_now, .ref a_t_anew, .int t_tableSize, .ref a_t_table, .int t_given, .ref a_t_inputs, .int t_known, .ref a_t_met, .ref a_t_any, .ref a_t_number, .int t_news, .ref a_t_outAny, .ref a_t_out, .int t_depth, .int t_steps, .int t_taken, .int t_shown, .ref a_t_at, .ref a_t_in, .ref a_t_back, .ref a_t_register, .ref a_t_output, .ref a_t_calls, .ref a_t_latest, .ref a_t_differ, .int t_outcome])), (a_t_length, .inl (cI, 12, .inl t_length)), (a_t_met, .inl (cZ, 204, .inl t_met)), (a_t_any, .inl (cZ, 1224, .inl t_any)), (a_t_number, .inl (cI, 1224, .inl t_number)), (a_t_outAny, .inl (cZ, 6, .inl t_outAny)), (a_t_out, .inl (cI, 6, .inl t_out))]
abbrev r_X8_come : Room := { frames := 0, cells := 0, slots := 0, locals := 0 }
def f_X8_come_160 (N : Nat) (k65 : Int32 → Int32 → Int32 → Int32 → (Nat → Int32) → (Nat → Int32) → (Nat → Int32) → Option (Int32 × (Nat → Int32) × (Nat → Int32) × (Nat → Int32))) (x1 : Int32) (x2 : Int32) (t_length : Nat → Int32) (t_outAny : Nat → Int32) (t_out : Nat → Int32) (x3 : Int32) (x4 : Int32) (x5 : Int32) (x6 : Int32) (x7 : Int32) (z0 : Int32) (t_news : Int32) (t_met : Nat → Int32) (t_any : Nat → Int32) (t_number : Nat → Int32) : Option (Int32 × (Nat → Int32) × (Nat → Int32) × (Nat → Int32)) := (g_zr z0).bind (fun v1 => (g_wz 1224 t_any x6 x7).bind (fun s2 => if x7 = 0 then (g_rd 6 t_out x5).bind (fun v4 => (g_wr 1224 t_number x6 v4).bind (fun s5 => k65 x3 x4 (x5 + 1) z0 t_met s2 s5)) else (g_wr 1224 t_number x6 0).bind (fun s6 => k65 x3 x4 (x5 + 1) z0 t_met s2 s6)))
set_option maxHeartbeats 4000000 in
set_option maxRecDepth 100000 in
theorem b_X8_come_160 {p : Program} {l : Launch} {e : Env} {s : State} {m : MethodId} {args : Array Value} {below : List Frame} {meth : Method} {c : Code} {tA : Nat} {dC : Nat → ClassId} {dI : Nat → Nat → Nat} {cI cZ cJ : ClassId} {A : Nat → Prop} {a_t : Nat} {a_t_length : Nat} {a_t_met : Nat} {a_t_any : Nat} {a_t_number : Nat} {a_t_outAny : Nat} {a_t_out : Nat} {a_t_parameters : Nat} {a_t_newLength : Nat} {a_t_first : Nat} {a_t_now : Nat} {a_t_anew : Nat} {a_t_table : Nat} {a_t_inputs : Nat} {a_t_at : Nat} {a_t_in : Nat} {a_t_back : Nat} {a_t_register : Nat} {a_t_output : Nat} {a_t_calls : Nat} {a_t_latest : Nat} {a_t_differ : Nat} {x1 : Int32} {x2 : Int32} {t_length : Nat → Int32} {t_outAny : Nat → Int32} {t_out : Nat → Int32} {t_code : Int32} {t_own : Int32} {t_count : Int32} {t_tableSize : Int32} {t_given : Int32} {t_known : Int32} {t_depth : Int32} {t_steps : Int32} {t_taken : Int32} {t_shown : Int32} {t_outcome : Int32} {N : Nat} {k65 : Int32 → Int32 → Int32 → Int32 → (Nat → Int32) → (Nat → Int32) → (Nat → Int32) → Option (Int32 × (Nat → Int32) × (Nat → Int32) × (Nat → Int32))} {x3 : Int32} {x4 : Int32} {x5 : Int32} {x6 : Int32} {x7 : Int32} {z0 : Int32} {t_news : Int32} {t_met : Nat → Int32} {t_any : Nat → Int32} {t_number : Nat → Int32} {out : Int32 × (Nat → Int32) × (Nat → Int32) × (Nat → Int32)} (hC : g_C p s m meth c args cX8_come 8 (none : Option Jvm.ClassFile.FieldType) RX8) (hk65 : ∀ (x3 : Int32) (x4 : Int32) (x5 : Int32) (t_news : Int32) (t_met : Nat → Int32) (t_any : Nat → Int32) (t_number : Nat → Int32) (out : Int32 × (Nat → Int32) × (Nat → Int32) × (Nat → Int32)), k65 x3 x4 x5 t_news t_met t_any t_number = some out → ∀ (H : Heap) (locs : List Loc) (ls : Array Slot), g_W tA dC dI cI cZ cJ A s H locs (w_X8_come cI cZ cJ a_t a_t_length a_t_met a_t_any a_t_number a_t_outAny a_t_out a_t_parameters a_t_newLength a_t_first a_t_now a_t_anew a_t_table a_t_inputs a_t_at a_t_in a_t_back a_t_register a_t_output a_t_calls a_t_latest a_t_differ t_code t_own t_count t_tableSize t_given t_known t_news t_depth t_steps t_taken t_shown t_outcome t_length t_met t_any t_number t_outAny t_out) → lv_has ls 8 [(0, .ref a_t), (3, .int x3), (4, .int x4), (5, .int x5)] → W p l e r_X8_come s m args below meth c H locs 0 0 (MQ below (g_Qv dC dI cI cZ cJ A (w_X8_come cI cZ cJ a_t a_t_length a_t_met a_t_any a_t_number a_t_outAny a_t_out a_t_parameters a_t_newLength a_t_first a_t_now a_t_anew a_t_table a_t_inputs a_t_at a_t_in a_t_back a_t_register a_t_output a_t_calls a_t_latest a_t_differ t_code t_own t_count t_tableSize t_given t_known out.1 t_depth t_steps t_taken t_shown t_outcome t_length out.2.1 out.2.2.1 out.2.2.2 t_outAny t_out)) args s 0 0 A) (F0 m 65 ls [])) (hf : f_X8_come_160 N k65 x1 x2 t_length t_outAny t_out x3 x4 x5 x6 x7 z0 t_news t_met t_any t_number = some out) {H : Heap} {locs : List Loc} {ls : Array Slot} (hW : g_W tA dC dI cI cZ cJ A s H locs (w_X8_come cI cZ cJ a_t a_t_length a_t_met a_t_any a_t_number a_t_outAny a_t_out a_t_parameters a_t_newLength a_t_first a_t_now a_t_anew a_t_table a_t_inputs a_t_at a_t_in a_t_back a_t_register a_t_output a_t_calls a_t_latest a_t_differ t_code t_own t_count t_tableSize t_given t_known t_news t_depth t_steps t_taken t_shown t_outcome t_length t_met t_any t_number t_outAny t_out)) (hl : lv_has ls 8 [(0, .ref a_t), (3, .int x3), (4, .int x4), (5, .int x5), (6, .int x6), (7, .int x7)]) : W p l e r_X8_come s m args below meth c H locs 0 0 (MQ below (g_Qv dC dI cI cZ cJ A (w_X8_come cI cZ cJ a_t a_t_length a_t_met a_t_any a_t_number a_t_outAny a_t_out a_t_parameters a_t_newLength a_t_first a_t_now a_t_anew a_t_table a_t_inputs a_t_at a_t_in a_t_back a_t_register a_t_output a_t_calls a_t_latest a_t_differ t_code t_own t_count t_tableSize t_given t_known out.1 t_depth t_steps t_taken t_shown t_outcome t_length out.2.1 out.2.2.1 out.2.2.2 t_outAny t_out)) args s 0 0 A) (F0 m 160 ls [.int z0, .ref a_t]) := by
  have hx := hC.1
  have hb := hC.2.1
  have hown := hC.2.2.2.2.1
  have hts := hC.2.2.2.2.2.1
  unfold f_X8_come_160 at hf
  obtain ⟨v1, h1, hf⟩ := g_bnd hf
  obtain ⟨rfl, hnh1, hnh1f⟩ := g_zr_ok h1
  refine gs_put (ws' := w_X8_come cI cZ cJ a_t a_t_length a_t_met a_t_any a_t_number a_t_outAny a_t_out a_t_parameters a_t_newLength a_t_first a_t_now a_t_anew a_t_table a_t_inputs a_t_at a_t_in a_t_back a_t_register a_t_output a_t_calls a_t_latest a_t_differ t_code t_own t_count t_tableSize t_given t_known z0 t_depth t_steps t_taken t_shown t_outcome t_length t_met t_any t_number t_outAny t_out) hC hW in_X8 tyX8_ok nmX8 0 17 rfl rfl (by decide) fl_X8_115 rfl hnh1 hnh1f (Nat.le_of_ble_eq_true rfl) rfl dX8_come_160 (fun H locs hW => ?_)
  refine lv_aload_n hx hb dX8_come_163 rfl (lv_at hl 0 rfl) ?_
  refine gs_get hC hW in_X8 0 15 rfl rfl (by decide) fl_X8_38 rfl dX8_come_164 ?_
  refine lv_iload hx hb dX8_come_167 (lv_at hl 4 rfl) ?_
  refine lv_iload hx hb dX8_come_169 (lv_at hl 5 rfl) ?_
  obtain ⟨s2, h2, hf⟩ := g_bnd hf
  refine gs_zast (ws' := w_X8_come cI cZ cJ a_t a_t_length a_t_met a_t_any a_t_number a_t_outAny a_t_out a_t_parameters a_t_newLength a_t_first a_t_now a_t_anew a_t_table a_t_inputs a_t_at a_t_in a_t_back a_t_register a_t_output a_t_calls a_t_latest a_t_differ t_code t_own t_count t_tableSize t_given t_known z0 t_depth t_steps t_taken t_shown t_outcome t_length t_met s2 t_number t_outAny t_out) hC hW 3 h2 rfl rfl dX8_come_171 (fun H locs hW => ?_)
  refine lv_aload_n hx hb dX8_come_172 rfl (lv_at hl 0 rfl) ?_
  refine gs_get hC hW in_X8 0 16 rfl rfl (by decide) fl_X8_41 rfl dX8_come_173 ?_
  refine lv_iload hx hb dX8_come_176 (lv_at hl 4 rfl) ?_
  refine lv_iload hx hb dX8_come_178 (lv_at hl 5 rfl) ?_
  refine lv_if_eq (tgt := 187) hx hb dX8_come_180 (by decide) (fun c3 => ?_) (fun c3 => ?_)
  · replace hf := (if_pos c3).symm.trans hf
    refine lv_aload_n hx hb dX8_come_187 rfl (lv_at hl 0 rfl) ?_
    refine gs_get hC hW in_X8 0 19 rfl rfl (by decide) fl_X8_47 rfl dX8_come_188 ?_
    refine lv_iload hx hb dX8_come_191 (lv_at hl 3 rfl) ?_
    obtain ⟨v4, h4, hf⟩ := g_bnd hf
    refine gs_iald hC hW 6 h4 rfl dX8_come_193 ?_
    obtain ⟨s5, h5, hf⟩ := g_bnd hf
    refine gs_iast (ws' := w_X8_come cI cZ cJ a_t a_t_length a_t_met a_t_any a_t_number a_t_outAny a_t_out a_t_parameters a_t_newLength a_t_first a_t_now a_t_anew a_t_table a_t_inputs a_t_at a_t_in a_t_back a_t_register a_t_output a_t_calls a_t_latest a_t_differ t_code t_own t_count t_tableSize t_given t_known z0 t_depth t_steps t_taken t_shown t_outcome t_length t_met s2 s5 t_outAny t_out) hC hW 4 h5 rfl rfl dX8_come_194 (fun H locs hW => ?_)
    refine lv_iinc (v := x5 + 1) (lv' := [(5, .int (x5 + 1)), (0, .ref a_t), (3, .int x3), (4, .int x4), (6, .int x6), (7, .int x7)]) hx hb dX8_come_195 hl (k := 3) rfl rfl (by decide) rfl (fun ls hl => ?_)
    refine lv_goto (tgt := 65) hx hb dX8_come_198 (by decide) ?_
    exact hk65 _ _ _ _ _ _ _ _ hf _ _ _ hW (lv_sub hl [1, 2, 3, 0] rfl)
  · replace hf := (if_neg c3).symm.trans hf
    refine lv_iconst (v := 0) hx hb dX8_come_183 (by decide) ?_
    refine lv_goto (tgt := 194) hx hb dX8_come_184 (by decide) ?_
    obtain ⟨s6, h6, hf⟩ := g_bnd hf
    refine gs_iast (ws' := w_X8_come cI cZ cJ a_t a_t_length a_t_met a_t_any a_t_number a_t_outAny a_t_out a_t_parameters a_t_newLength a_t_first a_t_now a_t_anew a_t_table a_t_inputs a_t_at a_t_in a_t_back a_t_register a_t_output a_t_calls a_t_latest a_t_differ t_code t_own t_count t_tableSize t_given t_known z0 t_depth t_steps t_taken t_shown t_outcome t_length t_met s2 s6 t_outAny t_out) hC hW 4 h6 rfl rfl dX8_come_194 (fun H locs hW => ?_)
    refine lv_iinc (v := x5 + 1) (lv' := [(5, .int (x5 + 1)), (0, .ref a_t), (3, .int x3), (4, .int x4), (6, .int x6), (7, .int x7)]) hx hb dX8_come_195 hl (k := 3) rfl rfl (by decide) rfl (fun ls hl => ?_)
    refine lv_goto (tgt := 65) hx hb dX8_come_198 (by decide) ?_
    exact hk65 _ _ _ _ _ _ _ _ hf _ _ _ hW (lv_sub hl [1, 2, 3, 0] rfl)
def f_X8_come_128 (N : Nat) (k65 : Int32 → Int32 → Int32 → Int32 → (Nat → Int32) → (Nat → Int32) → (Nat → Int32) → Option (Int32 × (Nat → Int32) × (Nat → Int32) × (Nat → Int32))) (x1 : Int32) (x2 : Int32) (t_length : Nat → Int32) (t_outAny : Nat → Int32) (t_out : Nat → Int32) (x3 : Int32) (x4 : Int32) (x5 : Int32) (x6 : Int32) (z0 : Int32) (t_news : Int32) (t_met : Nat → Int32) (t_any : Nat → Int32) (t_number : Nat → Int32) : Option (Int32 × (Nat → Int32) × (Nat → Int32) × (Nat → Int32)) := if t_news = 0 then if x4 = 0 then f_X8_come_160 N k65 x1 x2 t_length t_outAny t_out x3 x4 x5 x6 z0 0 t_news t_met t_any t_number else (g_rd 1224 t_any x6).bind (fun v9 => if z0 = v9 then f_X8_come_160 N k65 x1 x2 t_length t_outAny t_out x3 x4 x5 x6 z0 0 t_news t_met t_any t_number else f_X8_come_160 N k65 x1 x2 t_length t_outAny t_out x3 x4 x5 x6 z0 1 t_news t_met t_any t_number) else f_X8_come_160 N k65 x1 x2 t_length t_outAny t_out x3 x4 x5 x6 z0 1 t_news t_met t_any t_number
set_option maxHeartbeats 4000000 in
set_option maxRecDepth 100000 in
theorem b_X8_come_128 {p : Program} {l : Launch} {e : Env} {s : State} {m : MethodId} {args : Array Value} {below : List Frame} {meth : Method} {c : Code} {tA : Nat} {dC : Nat → ClassId} {dI : Nat → Nat → Nat} {cI cZ cJ : ClassId} {A : Nat → Prop} {a_t : Nat} {a_t_length : Nat} {a_t_met : Nat} {a_t_any : Nat} {a_t_number : Nat} {a_t_outAny : Nat} {a_t_out : Nat} {a_t_parameters : Nat} {a_t_newLength : Nat} {a_t_first : Nat} {a_t_now : Nat} {a_t_anew : Nat} {a_t_table : Nat} {a_t_inputs : Nat} {a_t_at : Nat} {a_t_in : Nat} {a_t_back : Nat} {a_t_register : Nat} {a_t_output : Nat} {a_t_calls : Nat} {a_t_latest : Nat} {a_t_differ : Nat} {x1 : Int32} {x2 : Int32} {t_length : Nat → Int32} {t_outAny : Nat → Int32} {t_out : Nat → Int32} {t_code : Int32} {t_own : Int32} {t_count : Int32} {t_tableSize : Int32} {t_given : Int32} {t_known : Int32} {t_depth : Int32} {t_steps : Int32} {t_taken : Int32} {t_shown : Int32} {t_outcome : Int32} {N : Nat} {k65 : Int32 → Int32 → Int32 → Int32 → (Nat → Int32) → (Nat → Int32) → (Nat → Int32) → Option (Int32 × (Nat → Int32) × (Nat → Int32) × (Nat → Int32))} {x3 : Int32} {x4 : Int32} {x5 : Int32} {x6 : Int32} {z0 : Int32} {t_news : Int32} {t_met : Nat → Int32} {t_any : Nat → Int32} {t_number : Nat → Int32} {out : Int32 × (Nat → Int32) × (Nat → Int32) × (Nat → Int32)} (hC : g_C p s m meth c args cX8_come 8 (none : Option Jvm.ClassFile.FieldType) RX8) (hk65 : ∀ (x3 : Int32) (x4 : Int32) (x5 : Int32) (t_news : Int32) (t_met : Nat → Int32) (t_any : Nat → Int32) (t_number : Nat → Int32) (out : Int32 × (Nat → Int32) × (Nat → Int32) × (Nat → Int32)), k65 x3 x4 x5 t_news t_met t_any t_number = some out → ∀ (H : Heap) (locs : List Loc) (ls : Array Slot), g_W tA dC dI cI cZ cJ A s H locs (w_X8_come cI cZ cJ a_t a_t_length a_t_met a_t_any a_t_number a_t_outAny a_t_out a_t_parameters a_t_newLength a_t_first a_t_now a_t_anew a_t_table a_t_inputs a_t_at a_t_in a_t_back a_t_register a_t_output a_t_calls a_t_latest a_t_differ t_code t_own t_count t_tableSize t_given t_known t_news t_depth t_steps t_taken t_shown t_outcome t_length t_met t_any t_number t_outAny t_out) → lv_has ls 8 [(0, .ref a_t), (3, .int x3), (4, .int x4), (5, .int x5)] → W p l e r_X8_come s m args below meth c H locs 0 0 (MQ below (g_Qv dC dI cI cZ cJ A (w_X8_come cI cZ cJ a_t a_t_length a_t_met a_t_any a_t_number a_t_outAny a_t_out a_t_parameters a_t_newLength a_t_first a_t_now a_t_anew a_t_table a_t_inputs a_t_at a_t_in a_t_back a_t_register a_t_output a_t_calls a_t_latest a_t_differ t_code t_own t_count t_tableSize t_given t_known out.1 t_depth t_steps t_taken t_shown t_outcome t_length out.2.1 out.2.2.1 out.2.2.2 t_outAny t_out)) args s 0 0 A) (F0 m 65 ls [])) (hf : f_X8_come_128 N k65 x1 x2 t_length t_outAny t_out x3 x4 x5 x6 z0 t_news t_met t_any t_number = some out) {H : Heap} {locs : List Loc} {ls : Array Slot} (hW : g_W tA dC dI cI cZ cJ A s H locs (w_X8_come cI cZ cJ a_t a_t_length a_t_met a_t_any a_t_number a_t_outAny a_t_out a_t_parameters a_t_newLength a_t_first a_t_now a_t_anew a_t_table a_t_inputs a_t_at a_t_in a_t_back a_t_register a_t_output a_t_calls a_t_latest a_t_differ t_code t_own t_count t_tableSize t_given t_known t_news t_depth t_steps t_taken t_shown t_outcome t_length t_met t_any t_number t_outAny t_out)) (hl : lv_has ls 8 [(0, .ref a_t), (3, .int x3), (4, .int x4), (5, .int x5), (6, .int x6)]) : W p l e r_X8_come s m args below meth c H locs 0 0 (MQ below (g_Qv dC dI cI cZ cJ A (w_X8_come cI cZ cJ a_t a_t_length a_t_met a_t_any a_t_number a_t_outAny a_t_out a_t_parameters a_t_newLength a_t_first a_t_now a_t_anew a_t_table a_t_inputs a_t_at a_t_in a_t_back a_t_register a_t_output a_t_calls a_t_latest a_t_differ t_code t_own t_count t_tableSize t_given t_known out.1 t_depth t_steps t_taken t_shown t_outcome t_length out.2.1 out.2.2.1 out.2.2.2 t_outAny t_out)) args s 0 0 A) (F0 m 128 ls [.int z0]) := by
  have hx := hC.1
  have hb := hC.2.1
  have hown := hC.2.2.2.2.1
  have hts := hC.2.2.2.2.2.1
  unfold f_X8_come_128 at hf
  refine lv_istore (lv' := [(7, .int z0), (0, .ref a_t), (3, .int x3), (4, .int x4), (5, .int x5), (6, .int x6)]) hx hb dX8_come_128 hl (by decide) rfl (fun ls hl => ?_)
  refine lv_aload_n hx hb dX8_come_130 rfl (lv_at hl 1 rfl) ?_
  refine lv_aload_n hx hb dX8_come_131 rfl (lv_at hl 1 rfl) ?_
  refine gs_get hC hW in_X8 0 17 rfl rfl (by decide) fl_X8_115 rfl dX8_come_132 ?_
  refine lv_if_ne (tgt := 155) hx hb dX8_come_135 (by decide) (fun c7 => ?_) (fun c7 => ?_)
  · replace hf := (if_neg c7).symm.trans hf
    refine lv_iconst (v := 1) hx hb dX8_come_155 (by decide) ?_
    refine lv_goto (tgt := 160) hx hb dX8_come_156 (by decide) ?_
    exact b_X8_come_160 hC hk65 hf hW (lv_sub hl [1, 2, 3, 4, 5, 0] rfl)
  · replace hf := (if_pos c7).symm.trans hf
    refine lv_iload hx hb dX8_come_138 (lv_at hl 3 rfl) ?_
    refine lv_if_eq (tgt := 159) hx hb dX8_come_140 (by decide) (fun c8 => ?_) (fun c8 => ?_)
    · replace hf := (if_pos c8).symm.trans hf
      refine lv_iconst (v := 0) hx hb dX8_come_159 (by decide) ?_
      exact b_X8_come_160 hC hk65 hf hW (lv_sub hl [1, 2, 3, 4, 5, 0] rfl)
    · replace hf := (if_neg c8).symm.trans hf
      refine lv_iload hx hb dX8_come_143 (lv_at hl 0 rfl) ?_
      refine lv_aload_n hx hb dX8_come_145 rfl (lv_at hl 1 rfl) ?_
      refine gs_get hC hW in_X8 0 15 rfl rfl (by decide) fl_X8_38 rfl dX8_come_146 ?_
      refine lv_iload hx hb dX8_come_149 (lv_at hl 5 rfl) ?_
      obtain ⟨v9, h9, hf⟩ := g_bnd hf
      refine gs_zald hC hW 3 h9 rfl dX8_come_151 ?_
      refine lv_icmp_eq (tgt := 159) hx hb dX8_come_152 (by decide) (fun c10 => ?_) (fun c10 => ?_)
      · replace hf := (if_pos c10).symm.trans hf
        refine lv_iconst (v := 0) hx hb dX8_come_159 (by decide) ?_
        exact b_X8_come_160 hC hk65 hf hW (lv_sub hl [1, 2, 3, 4, 5, 0] rfl)
      · replace hf := (if_neg c10).symm.trans hf
        refine lv_iconst (v := 1) hx hb dX8_come_155 (by decide) ?_
        refine lv_goto (tgt := 160) hx hb dX8_come_156 (by decide) ?_
        exact b_X8_come_160 hC hk65 hf hW (lv_sub hl [1, 2, 3, 4, 5, 0] rfl)
def f_X8_come_65 (N : Nat) (x1 : Int32) (x2 : Int32) (t_length : Nat → Int32) (t_outAny : Nat → Int32) (t_out : Nat → Int32) : Nat → Int32 → Int32 → Int32 → Int32 → (Nat → Int32) → (Nat → Int32) → (Nat → Int32) → Option (Int32 × (Nat → Int32) × (Nat → Int32) × (Nat → Int32))
  | 0, _, _, _, _, _, _, _ => none
  | n + 1, x3, x4, x5, t_news, t_met, t_any, t_number => if 6 ≤ x5 then some (t_news, t_met, t_any, t_number) else (g_rd 6 t_outAny x5).bind (fun v12 => if v12 = 0 then if x4 = 0 then f_X8_come_128 N (f_X8_come_65 N x1 x2 t_length t_outAny t_out n) x1 x2 t_length t_outAny t_out x3 x4 x5 ((6 * x3) + x5) 0 t_news t_met t_any t_number else (g_rd 1224 t_any ((6 * x3) + x5)).bind (fun v15 => if v15 = 0 then (g_rd 1224 t_number ((6 * x3) + x5)).bind (fun v17 => (g_rd 6 t_out x5).bind (fun v18 => if v17 = v18 then f_X8_come_128 N (f_X8_come_65 N x1 x2 t_length t_outAny t_out n) x1 x2 t_length t_outAny t_out x3 x4 x5 ((6 * x3) + x5) 0 t_news t_met t_any t_number else f_X8_come_128 N (f_X8_come_65 N x1 x2 t_length t_outAny t_out n) x1 x2 t_length t_outAny t_out x3 x4 x5 ((6 * x3) + x5) 1 t_news t_met t_any t_number)) else f_X8_come_128 N (f_X8_come_65 N x1 x2 t_length t_outAny t_out n) x1 x2 t_length t_outAny t_out x3 x4 x5 ((6 * x3) + x5) 1 t_news t_met t_any t_number) else f_X8_come_128 N (f_X8_come_65 N x1 x2 t_length t_outAny t_out n) x1 x2 t_length t_outAny t_out x3 x4 x5 ((6 * x3) + x5) 1 t_news t_met t_any t_number)
set_option maxHeartbeats 4000000 in
set_option maxRecDepth 100000 in
theorem b_X8_come_65 {p : Program} {l : Launch} {e : Env} {s : State} {m : MethodId} {args : Array Value} {below : List Frame} {meth : Method} {c : Code} {tA : Nat} {dC : Nat → ClassId} {dI : Nat → Nat → Nat} {cI cZ cJ : ClassId} {A : Nat → Prop} {a_t : Nat} {a_t_length : Nat} {a_t_met : Nat} {a_t_any : Nat} {a_t_number : Nat} {a_t_outAny : Nat} {a_t_out : Nat} {a_t_parameters : Nat} {a_t_newLength : Nat} {a_t_first : Nat} {a_t_now : Nat} {a_t_anew : Nat} {a_t_table : Nat} {a_t_inputs : Nat} {a_t_at : Nat} {a_t_in : Nat} {a_t_back : Nat} {a_t_register : Nat} {a_t_output : Nat} {a_t_calls : Nat} {a_t_latest : Nat} {a_t_differ : Nat} {x1 : Int32} {x2 : Int32} {t_length : Nat → Int32} {t_outAny : Nat → Int32} {t_out : Nat → Int32} {t_code : Int32} {t_own : Int32} {t_count : Int32} {t_tableSize : Int32} {t_given : Int32} {t_known : Int32} {t_depth : Int32} {t_steps : Int32} {t_taken : Int32} {t_shown : Int32} {t_outcome : Int32} {N : Nat} (hC : g_C p s m meth c args cX8_come 8 (none : Option Jvm.ClassFile.FieldType) RX8) :
    ∀ (n : Nat) (x3 : Int32) (x4 : Int32) (x5 : Int32) (t_news : Int32) (t_met : Nat → Int32) (t_any : Nat → Int32) (t_number : Nat → Int32) (out : Int32 × (Nat → Int32) × (Nat → Int32) × (Nat → Int32)), f_X8_come_65 N x1 x2 t_length t_outAny t_out n x3 x4 x5 t_news t_met t_any t_number = some out → ∀ (H : Heap) (locs : List Loc) (ls : Array Slot), g_W tA dC dI cI cZ cJ A s H locs (w_X8_come cI cZ cJ a_t a_t_length a_t_met a_t_any a_t_number a_t_outAny a_t_out a_t_parameters a_t_newLength a_t_first a_t_now a_t_anew a_t_table a_t_inputs a_t_at a_t_in a_t_back a_t_register a_t_output a_t_calls a_t_latest a_t_differ t_code t_own t_count t_tableSize t_given t_known t_news t_depth t_steps t_taken t_shown t_outcome t_length t_met t_any t_number t_outAny t_out) → lv_has ls 8 [(0, .ref a_t), (3, .int x3), (4, .int x4), (5, .int x5)] → W p l e r_X8_come s m args below meth c H locs 0 0 (MQ below (g_Qv dC dI cI cZ cJ A (w_X8_come cI cZ cJ a_t a_t_length a_t_met a_t_any a_t_number a_t_outAny a_t_out a_t_parameters a_t_newLength a_t_first a_t_now a_t_anew a_t_table a_t_inputs a_t_at a_t_in a_t_back a_t_register a_t_output a_t_calls a_t_latest a_t_differ t_code t_own t_count t_tableSize t_given t_known out.1 t_depth t_steps t_taken t_shown t_outcome t_length out.2.1 out.2.2.1 out.2.2.2 t_outAny t_out)) args s 0 0 A) (F0 m 65 ls []) := by
  have hx := hC.1
  have hb := hC.2.1
  have hown := hC.2.2.2.2.1
  have hts := hC.2.2.2.2.2.1
  intro n
  induction n with
  | zero =>
    intro x3 x4 x5 t_news t_met t_any t_number out hf
    exact g_no hf
  | succ n ih =>
    intro x3 x4 x5 t_news t_met t_any t_number out hf H locs ls hW hl
    refine lv_iload hx hb dX8_come_65 (lv_at hl 3 rfl) ?_
    refine lv_bipush (v := 6) hx hb dX8_come_67 (by decide) ?_
    refine lv_icmp_ge (tgt := 201) hx hb dX8_come_69 (by decide) (fun c11 => ?_) (fun c11 => ?_)
    · replace hf := (if_pos c11).symm.trans hf
      obtain rfl := Option.some.inj hf
      exact gs_rv hC hW rfl dX8_come_201
    · replace hf := (if_neg c11).symm.trans hf
      refine lv_bipush (v := 6) hx hb dX8_come_72 (by decide) ?_
      refine lv_iload_n hx hb dX8_come_74 rfl (lv_at hl 1 rfl) ?_
      refine lv_imul hx hb dX8_come_75 ?_
      refine lv_iload hx hb dX8_come_76 (lv_at hl 3 rfl) ?_
      refine lv_iadd hx hb dX8_come_78 ?_
      refine lv_istore (lv' := [(6, .int ((6 * x3) + x5)), (0, .ref a_t), (3, .int x3), (4, .int x4), (5, .int x5)]) hx hb dX8_come_79 hl (by decide) rfl (fun ls hl => ?_)
      refine lv_aload_n hx hb dX8_come_81 rfl (lv_at hl 1 rfl) ?_
      refine gs_get hC hW in_X8 0 18 rfl rfl (by decide) fl_X8_44 rfl dX8_come_82 ?_
      refine lv_iload hx hb dX8_come_85 (lv_at hl 4 rfl) ?_
      obtain ⟨v12, h12, hf⟩ := g_bnd hf
      refine gs_zald hC hW 5 h12 rfl dX8_come_87 ?_
      refine lv_if_ne (tgt := 123) hx hb dX8_come_88 (by decide) (fun c13 => ?_) (fun c13 => ?_)
      · replace hf := (if_neg c13).symm.trans hf
        refine lv_iconst (v := 1) hx hb dX8_come_123 (by decide) ?_
        refine lv_goto (tgt := 128) hx hb dX8_come_124 (by decide) ?_
        exact b_X8_come_128 hC ih hf hW (lv_sub hl [1, 2, 3, 4, 0] rfl)
      · replace hf := (if_pos c13).symm.trans hf
        refine lv_iload hx hb dX8_come_91 (lv_at hl 3 rfl) ?_
        refine lv_if_eq (tgt := 127) hx hb dX8_come_93 (by decide) (fun c14 => ?_) (fun c14 => ?_)
        · replace hf := (if_pos c14).symm.trans hf
          refine lv_iconst (v := 0) hx hb dX8_come_127 (by decide) ?_
          exact b_X8_come_128 hC ih hf hW (lv_sub hl [1, 2, 3, 4, 0] rfl)
        · replace hf := (if_neg c14).symm.trans hf
          refine lv_aload_n hx hb dX8_come_96 rfl (lv_at hl 1 rfl) ?_
          refine gs_get hC hW in_X8 0 15 rfl rfl (by decide) fl_X8_38 rfl dX8_come_97 ?_
          refine lv_iload hx hb dX8_come_100 (lv_at hl 0 rfl) ?_
          obtain ⟨v15, h15, hf⟩ := g_bnd hf
          refine gs_zald hC hW 3 h15 rfl dX8_come_102 ?_
          refine lv_if_ne (tgt := 123) hx hb dX8_come_103 (by decide) (fun c16 => ?_) (fun c16 => ?_)
          · replace hf := (if_neg c16).symm.trans hf
            refine lv_iconst (v := 1) hx hb dX8_come_123 (by decide) ?_
            refine lv_goto (tgt := 128) hx hb dX8_come_124 (by decide) ?_
            exact b_X8_come_128 hC ih hf hW (lv_sub hl [1, 2, 3, 4, 0] rfl)
          · replace hf := (if_pos c16).symm.trans hf
            refine lv_aload_n hx hb dX8_come_106 rfl (lv_at hl 1 rfl) ?_
            refine gs_get hC hW in_X8 0 16 rfl rfl (by decide) fl_X8_41 rfl dX8_come_107 ?_
            refine lv_iload hx hb dX8_come_110 (lv_at hl 0 rfl) ?_
            obtain ⟨v17, h17, hf⟩ := g_bnd hf
            refine gs_iald hC hW 4 h17 rfl dX8_come_112 ?_
            refine lv_aload_n hx hb dX8_come_113 rfl (lv_at hl 1 rfl) ?_
            refine gs_get hC hW in_X8 0 19 rfl rfl (by decide) fl_X8_47 rfl dX8_come_114 ?_
            refine lv_iload hx hb dX8_come_117 (lv_at hl 4 rfl) ?_
            obtain ⟨v18, h18, hf⟩ := g_bnd hf
            refine gs_iald hC hW 6 h18 rfl dX8_come_119 ?_
            refine lv_icmp_eq (tgt := 127) hx hb dX8_come_120 (by decide) (fun c19 => ?_) (fun c19 => ?_)
            · replace hf := (if_pos c19).symm.trans hf
              refine lv_iconst (v := 0) hx hb dX8_come_127 (by decide) ?_
              exact b_X8_come_128 hC ih hf hW (lv_sub hl [1, 2, 3, 4, 0] rfl)
            · replace hf := (if_neg c19).symm.trans hf
              refine lv_iconst (v := 1) hx hb dX8_come_123 (by decide) ?_
              refine lv_goto (tgt := 128) hx hb dX8_come_124 (by decide) ?_
              exact b_X8_come_128 hC ih hf hW (lv_sub hl [1, 2, 3, 4, 0] rfl)
def f_X8_come_24 (N : Nat) (x1 : Int32) (x2 : Int32) (t_length : Nat → Int32) (t_outAny : Nat → Int32) (t_out : Nat → Int32) (z0 : Int32) (z1 : Int32) (t_news : Int32) (t_met : Nat → Int32) (t_any : Nat → Int32) (t_number : Nat → Int32) : Option (Int32 × (Nat → Int32) × (Nat → Int32) × (Nat → Int32)) := (g_rd 204 t_met (z1 + z0)).bind (fun v20 => if t_news = 0 then if v20 = 0 then (g_wz 204 t_met (z1 + z0) 1).bind (fun s25 => f_X8_come_65 N x1 x2 t_length t_outAny t_out N (z1 + z0) v20 0 1 s25 t_any t_number) else (g_wz 204 t_met (z1 + z0) 1).bind (fun s24 => f_X8_come_65 N x1 x2 t_length t_outAny t_out N (z1 + z0) v20 0 0 s24 t_any t_number) else (g_wz 204 t_met (z1 + z0) 1).bind (fun s22 => f_X8_come_65 N x1 x2 t_length t_outAny t_out N (z1 + z0) v20 0 1 s22 t_any t_number))
set_option maxHeartbeats 4000000 in
set_option maxRecDepth 100000 in
theorem b_X8_come_24 {p : Program} {l : Launch} {e : Env} {s : State} {m : MethodId} {args : Array Value} {below : List Frame} {meth : Method} {c : Code} {tA : Nat} {dC : Nat → ClassId} {dI : Nat → Nat → Nat} {cI cZ cJ : ClassId} {A : Nat → Prop} {a_t : Nat} {a_t_length : Nat} {a_t_met : Nat} {a_t_any : Nat} {a_t_number : Nat} {a_t_outAny : Nat} {a_t_out : Nat} {a_t_parameters : Nat} {a_t_newLength : Nat} {a_t_first : Nat} {a_t_now : Nat} {a_t_anew : Nat} {a_t_table : Nat} {a_t_inputs : Nat} {a_t_at : Nat} {a_t_in : Nat} {a_t_back : Nat} {a_t_register : Nat} {a_t_output : Nat} {a_t_calls : Nat} {a_t_latest : Nat} {a_t_differ : Nat} {x1 : Int32} {x2 : Int32} {t_length : Nat → Int32} {t_outAny : Nat → Int32} {t_out : Nat → Int32} {t_code : Int32} {t_own : Int32} {t_count : Int32} {t_tableSize : Int32} {t_given : Int32} {t_known : Int32} {t_depth : Int32} {t_steps : Int32} {t_taken : Int32} {t_shown : Int32} {t_outcome : Int32} {N : Nat} {z0 : Int32} {z1 : Int32} {t_news : Int32} {t_met : Nat → Int32} {t_any : Nat → Int32} {t_number : Nat → Int32} {out : Int32 × (Nat → Int32) × (Nat → Int32) × (Nat → Int32)} (hC : g_C p s m meth c args cX8_come 8 (none : Option Jvm.ClassFile.FieldType) RX8) (hf : f_X8_come_24 N x1 x2 t_length t_outAny t_out z0 z1 t_news t_met t_any t_number = some out) {H : Heap} {locs : List Loc} {ls : Array Slot} (hW : g_W tA dC dI cI cZ cJ A s H locs (w_X8_come cI cZ cJ a_t a_t_length a_t_met a_t_any a_t_number a_t_outAny a_t_out a_t_parameters a_t_newLength a_t_first a_t_now a_t_anew a_t_table a_t_inputs a_t_at a_t_in a_t_back a_t_register a_t_output a_t_calls a_t_latest a_t_differ t_code t_own t_count t_tableSize t_given t_known t_news t_depth t_steps t_taken t_shown t_outcome t_length t_met t_any t_number t_outAny t_out)) (hl : lv_has ls 8 [(0, .ref a_t)]) : W p l e r_X8_come s m args below meth c H locs 0 0 (MQ below (g_Qv dC dI cI cZ cJ A (w_X8_come cI cZ cJ a_t a_t_length a_t_met a_t_any a_t_number a_t_outAny a_t_out a_t_parameters a_t_newLength a_t_first a_t_now a_t_anew a_t_table a_t_inputs a_t_at a_t_in a_t_back a_t_register a_t_output a_t_calls a_t_latest a_t_differ t_code t_own t_count t_tableSize t_given t_known out.1 t_depth t_steps t_taken t_shown t_outcome t_length out.2.1 out.2.2.1 out.2.2.2 t_outAny t_out)) args s 0 0 A) (F0 m 24 ls [.int z0, .int z1]) := by
  have hx := hC.1
  have hb := hC.2.1
  have hown := hC.2.2.2.2.1
  have hts := hC.2.2.2.2.2.1
  unfold f_X8_come_24 at hf
  refine lv_iadd hx hb dX8_come_24 ?_
  refine lv_istore_n (lv' := [(3, .int (z1 + z0)), (0, .ref a_t)]) hx hb dX8_come_25 rfl hl (by decide) rfl (fun ls hl => ?_)
  refine lv_aload_n hx hb dX8_come_26 rfl (lv_at hl 1 rfl) ?_
  refine gs_get hC hW in_X8 0 14 rfl rfl (by decide) fl_X8_34 rfl dX8_come_27 ?_
  refine lv_iload_n hx hb dX8_come_30 rfl (lv_at hl 0 rfl) ?_
  obtain ⟨v20, h20, hf⟩ := g_bnd hf
  refine gs_zald hC hW 2 h20 rfl dX8_come_31 ?_
  refine lv_istore (lv' := [(4, .int v20), (3, .int (z1 + z0)), (0, .ref a_t)]) hx hb dX8_come_32 hl (by decide) rfl (fun ls hl => ?_)
  refine lv_aload_n hx hb dX8_come_34 rfl (lv_at hl 2 rfl) ?_
  refine lv_aload_n hx hb dX8_come_35 rfl (lv_at hl 2 rfl) ?_
  refine gs_get hC hW in_X8 0 17 rfl rfl (by decide) fl_X8_115 rfl dX8_come_36 ?_
  refine lv_if_ne (tgt := 47) hx hb dX8_come_39 (by decide) (fun c21 => ?_) (fun c21 => ?_)
  · replace hf := (if_neg c21).symm.trans hf
    refine lv_iconst (v := 1) hx hb dX8_come_47 (by decide) ?_
    refine lv_goto (tgt := 52) hx hb dX8_come_48 (by decide) ?_
    refine gs_put (ws' := w_X8_come cI cZ cJ a_t a_t_length a_t_met a_t_any a_t_number a_t_outAny a_t_out a_t_parameters a_t_newLength a_t_first a_t_now a_t_anew a_t_table a_t_inputs a_t_at a_t_in a_t_back a_t_register a_t_output a_t_calls a_t_latest a_t_differ t_code t_own t_count t_tableSize t_given t_known 1 t_depth t_steps t_taken t_shown t_outcome t_length t_met t_any t_number t_outAny t_out) hC hW in_X8 tyX8_ok nmX8 0 17 rfl rfl (by decide) fl_X8_115 rfl (by decide) (by decide) (Nat.le_of_ble_eq_true rfl) rfl dX8_come_52 (fun H locs hW => ?_)
    refine lv_aload_n hx hb dX8_come_55 rfl (lv_at hl 2 rfl) ?_
    refine gs_get hC hW in_X8 0 14 rfl rfl (by decide) fl_X8_34 rfl dX8_come_56 ?_
    refine lv_iload_n hx hb dX8_come_59 rfl (lv_at hl 1 rfl) ?_
    refine lv_iconst (v := 1) hx hb dX8_come_60 (by decide) ?_
    obtain ⟨s22, h22, hf⟩ := g_bnd hf
    refine gs_zast (ws' := w_X8_come cI cZ cJ a_t a_t_length a_t_met a_t_any a_t_number a_t_outAny a_t_out a_t_parameters a_t_newLength a_t_first a_t_now a_t_anew a_t_table a_t_inputs a_t_at a_t_in a_t_back a_t_register a_t_output a_t_calls a_t_latest a_t_differ t_code t_own t_count t_tableSize t_given t_known 1 t_depth t_steps t_taken t_shown t_outcome t_length s22 t_any t_number t_outAny t_out) hC hW 2 h22 rfl rfl dX8_come_61 (fun H locs hW => ?_)
    refine lv_iconst (v := 0) hx hb dX8_come_62 (by decide) ?_
    refine lv_istore (lv' := [(5, .int 0), (4, .int v20), (3, .int (z1 + z0)), (0, .ref a_t)]) hx hb dX8_come_63 hl (by decide) rfl (fun ls hl => ?_)
    exact b_X8_come_65 hC N _ _ _ _ _ _ _ _ hf _ _ _ hW (lv_sub hl [3, 2, 1, 0] rfl)
  · replace hf := (if_pos c21).symm.trans hf
    refine lv_iload hx hb dX8_come_42 (lv_at hl 0 rfl) ?_
    refine lv_if_ne (tgt := 51) hx hb dX8_come_44 (by decide) (fun c23 => ?_) (fun c23 => ?_)
    · replace hf := (if_neg c23).symm.trans hf
      refine lv_iconst (v := 0) hx hb dX8_come_51 (by decide) ?_
      refine gs_put (ws' := w_X8_come cI cZ cJ a_t a_t_length a_t_met a_t_any a_t_number a_t_outAny a_t_out a_t_parameters a_t_newLength a_t_first a_t_now a_t_anew a_t_table a_t_inputs a_t_at a_t_in a_t_back a_t_register a_t_output a_t_calls a_t_latest a_t_differ t_code t_own t_count t_tableSize t_given t_known 0 t_depth t_steps t_taken t_shown t_outcome t_length t_met t_any t_number t_outAny t_out) hC hW in_X8 tyX8_ok nmX8 0 17 rfl rfl (by decide) fl_X8_115 rfl (by decide) (by decide) (Nat.le_of_ble_eq_true rfl) rfl dX8_come_52 (fun H locs hW => ?_)
      refine lv_aload_n hx hb dX8_come_55 rfl (lv_at hl 2 rfl) ?_
      refine gs_get hC hW in_X8 0 14 rfl rfl (by decide) fl_X8_34 rfl dX8_come_56 ?_
      refine lv_iload_n hx hb dX8_come_59 rfl (lv_at hl 1 rfl) ?_
      refine lv_iconst (v := 1) hx hb dX8_come_60 (by decide) ?_
      obtain ⟨s24, h24, hf⟩ := g_bnd hf
      refine gs_zast (ws' := w_X8_come cI cZ cJ a_t a_t_length a_t_met a_t_any a_t_number a_t_outAny a_t_out a_t_parameters a_t_newLength a_t_first a_t_now a_t_anew a_t_table a_t_inputs a_t_at a_t_in a_t_back a_t_register a_t_output a_t_calls a_t_latest a_t_differ t_code t_own t_count t_tableSize t_given t_known 0 t_depth t_steps t_taken t_shown t_outcome t_length s24 t_any t_number t_outAny t_out) hC hW 2 h24 rfl rfl dX8_come_61 (fun H locs hW => ?_)
      refine lv_iconst (v := 0) hx hb dX8_come_62 (by decide) ?_
      refine lv_istore (lv' := [(5, .int 0), (4, .int v20), (3, .int (z1 + z0)), (0, .ref a_t)]) hx hb dX8_come_63 hl (by decide) rfl (fun ls hl => ?_)
      exact b_X8_come_65 hC N _ _ _ _ _ _ _ _ hf _ _ _ hW (lv_sub hl [3, 2, 1, 0] rfl)
    · replace hf := (if_pos c23).symm.trans hf
      refine lv_iconst (v := 1) hx hb dX8_come_47 (by decide) ?_
      refine lv_goto (tgt := 52) hx hb dX8_come_48 (by decide) ?_
      refine gs_put (ws' := w_X8_come cI cZ cJ a_t a_t_length a_t_met a_t_any a_t_number a_t_outAny a_t_out a_t_parameters a_t_newLength a_t_first a_t_now a_t_anew a_t_table a_t_inputs a_t_at a_t_in a_t_back a_t_register a_t_output a_t_calls a_t_latest a_t_differ t_code t_own t_count t_tableSize t_given t_known 1 t_depth t_steps t_taken t_shown t_outcome t_length t_met t_any t_number t_outAny t_out) hC hW in_X8 tyX8_ok nmX8 0 17 rfl rfl (by decide) fl_X8_115 rfl (by decide) (by decide) (Nat.le_of_ble_eq_true rfl) rfl dX8_come_52 (fun H locs hW => ?_)
      refine lv_aload_n hx hb dX8_come_55 rfl (lv_at hl 2 rfl) ?_
      refine gs_get hC hW in_X8 0 14 rfl rfl (by decide) fl_X8_34 rfl dX8_come_56 ?_
      refine lv_iload_n hx hb dX8_come_59 rfl (lv_at hl 1 rfl) ?_
      refine lv_iconst (v := 1) hx hb dX8_come_60 (by decide) ?_
      obtain ⟨s25, h25, hf⟩ := g_bnd hf
      refine gs_zast (ws' := w_X8_come cI cZ cJ a_t a_t_length a_t_met a_t_any a_t_number a_t_outAny a_t_out a_t_parameters a_t_newLength a_t_first a_t_now a_t_anew a_t_table a_t_inputs a_t_at a_t_in a_t_back a_t_register a_t_output a_t_calls a_t_latest a_t_differ t_code t_own t_count t_tableSize t_given t_known 1 t_depth t_steps t_taken t_shown t_outcome t_length s25 t_any t_number t_outAny t_out) hC hW 2 h25 rfl rfl dX8_come_61 (fun H locs hW => ?_)
      refine lv_iconst (v := 0) hx hb dX8_come_62 (by decide) ?_
      refine lv_istore (lv' := [(5, .int 0), (4, .int v20), (3, .int (z1 + z0)), (0, .ref a_t)]) hx hb dX8_come_63 hl (by decide) rfl (fun ls hl => ?_)
      exact b_X8_come_65 hC N _ _ _ _ _ _ _ _ hf _ _ _ hW (lv_sub hl [3, 2, 1, 0] rfl)
def f_X8_come (N : Nat) (x1 : Int32) (x2 : Int32) (t_news : Int32) (t_length : Nat → Int32) (t_met : Nat → Int32) (t_any : Nat → Int32) (t_number : Nat → Int32) (t_outAny : Nat → Int32) (t_out : Nat → Int32) : Option (Int32 × (Nat → Int32) × (Nat → Int32) × (Nat → Int32)) := (g_rd 12 t_length x1).bind (fun v26 => if x2 ≤ v26 then f_X8_come_24 N x1 x2 t_length t_outAny t_out x2 (17 * x1) t_news t_met t_any t_number else (g_rd 12 t_length x1).bind (fun v28 => f_X8_come_24 N x1 x2 t_length t_outAny t_out v28 (17 * x1) t_news t_met t_any t_number))
set_option maxHeartbeats 4000000 in
set_option maxRecDepth 100000 in
theorem k_X8_come (l : Launch) (tA : Nat) (dC : Nat → ClassId) (dI : Nat → Nat → Nat) (cI cZ cJ : ClassId) (a_t : Nat) (a_t_length : Nat) (a_t_met : Nat) (a_t_any : Nat) (a_t_number : Nat) (a_t_outAny : Nat) (a_t_out : Nat) (a_t_parameters : Nat) (a_t_newLength : Nat) (a_t_first : Nat) (a_t_now : Nat) (a_t_anew : Nat) (a_t_table : Nat) (a_t_inputs : Nat) (a_t_at : Nat) (a_t_in : Nat) (a_t_back : Nat) (a_t_register : Nat) (a_t_output : Nat) (a_t_calls : Nat) (a_t_latest : Nat) (a_t_differ : Nat) (N : Nat) (x1 : Int32) (x2 : Int32) (t_code : Int32) (t_own : Int32) (t_count : Int32) (t_tableSize : Int32) (t_given : Int32) (t_known : Int32) (t_news : Int32) (t_depth : Int32) (t_steps : Int32) (t_taken : Int32) (t_shown : Int32) (t_outcome : Int32) (t_length : Nat → Int32) (t_met : Nat → Int32) (t_any : Nat → Int32) (t_number : Nat → Int32) (t_outAny : Nat → Int32) (t_out : Nat → Int32) (out : Int32 × (Nat → Int32) × (Nat → Int32) × (Nat → Int32)) (hf : f_X8_come N x1 x2 t_news t_length t_met t_any t_number t_outAny t_out = some out) : g_Mv l yX8_come cX8_come 8 (none : Option Jvm.ClassFile.FieldType) r_X8_come tA dC dI cI cZ cJ [.ref a_t, .int x1, .int x2] (w_X8_come cI cZ cJ a_t a_t_length a_t_met a_t_any a_t_number a_t_outAny a_t_out a_t_parameters a_t_newLength a_t_first a_t_now a_t_anew a_t_table a_t_inputs a_t_at a_t_in a_t_back a_t_register a_t_output a_t_calls a_t_latest a_t_differ t_code t_own t_count t_tableSize t_given t_known t_news t_depth t_steps t_taken t_shown t_outcome t_length t_met t_any t_number t_outAny t_out) (w_X8_come cI cZ cJ a_t a_t_length a_t_met a_t_any a_t_number a_t_outAny a_t_out a_t_parameters a_t_newLength a_t_first a_t_now a_t_anew a_t_table a_t_inputs a_t_at a_t_in a_t_back a_t_register a_t_output a_t_calls a_t_latest a_t_differ t_code t_own t_count t_tableSize t_given t_known out.1 t_depth t_steps t_taken t_shown t_outcome t_length out.2.1 out.2.2.1 out.2.2.2 t_outAny t_out) := by
  unfold f_X8_come at hf
  refine ge_v (by decide) (Nat.le_of_ble_eq_true rfl) (fun p e s m below meth c A H locs ls hC hW hl => ?_)
  have hC : g_C p s m meth c _ cX8_come 8 (none : Option Jvm.ClassFile.FieldType) RX8 := hC
  have hx := hC.1
  have hb := hC.2.1
  have hown := hC.2.2.2.2.1
  have hts := hC.2.2.2.2.2.1
  have hl : lv_has ls 8 [(0, .ref a_t), (1, .int x1), (2, .int x2)] := hl
  refine lv_bipush (v := 17) hx hb dX8_come_0 (by decide) ?_
  refine lv_iload_n hx hb dX8_come_2 rfl (lv_at hl 1 rfl) ?_
  refine lv_imul hx hb dX8_come_3 ?_
  refine lv_iload_n hx hb dX8_come_4 rfl (lv_at hl 2 rfl) ?_
  refine lv_aload_n hx hb dX8_come_5 rfl (lv_at hl 0 rfl) ?_
  refine gs_get hC hW in_X8 0 4 rfl rfl (by decide) fl_X8_13 rfl dX8_come_6 ?_
  refine lv_iload_n hx hb dX8_come_9 rfl (lv_at hl 1 rfl) ?_
  obtain ⟨v26, h26, hf⟩ := g_bnd hf
  refine gs_iald hC hW 1 h26 rfl dX8_come_10 ?_
  refine lv_icmp_le (tgt := 23) hx hb dX8_come_11 (by decide) (fun c27 => ?_) (fun c27 => ?_)
  · replace hf := (if_pos c27).symm.trans hf
    refine lv_iload_n hx hb dX8_come_23 rfl (lv_at hl 2 rfl) ?_
    exact b_X8_come_24 hC hf hW (lv_sub hl [0] rfl)
  · replace hf := (if_neg c27).symm.trans hf
    refine lv_aload_n hx hb dX8_come_14 rfl (lv_at hl 0 rfl) ?_
    refine gs_get hC hW in_X8 0 4 rfl rfl (by decide) fl_X8_13 rfl dX8_come_15 ?_
    refine lv_iload_n hx hb dX8_come_18 rfl (lv_at hl 1 rfl) ?_
    obtain ⟨v28, h28, hf⟩ := g_bnd hf
    refine gs_iald hC hW 1 h28 rfl dX8_come_19 ?_
    refine lv_goto (tgt := 24) hx hb dX8_come_20 (by decide) ?_
    exact b_X8_come_24 hC hf hW (lv_sub hl [0] rfl)

abbrev w_X8_reckon (cI cZ cJ : ClassId) : va_W := []
abbrev r_X8_reckon : Room := { frames := 0, cells := 0, slots := 0, locals := 0 }
def f_X8_reckon (x0 : Int32) (x1 : Int32) (x2 : Int32) : Option (Int32) := if x0 = 1 then some (x1 + x2) else if x0 = 2 then some (x1 - x2) else if x0 = 3 then some (x1 * x2) else if x0 = 4 then if x2 ≤ x1 then some 0 else some 1 else some x1
set_option maxHeartbeats 4000000 in
set_option maxRecDepth 100000 in
theorem k_X8_reckon (l : Launch) (tA : Nat) (dC : Nat → ClassId) (dI : Nat → Nat → Nat) (cI cZ cJ : ClassId) (x0 : Int32) (x1 : Int32) (x2 : Int32) (out : Int32) (hf : f_X8_reckon x0 x1 x2 = some out) : g_Mi l yX8_reckon cX8_reckon 3 (some .int) r_X8_reckon tA dC dI cI cZ cJ [.int x0, .int x1, .int x2] (w_X8_reckon cI cZ cJ ) (w_X8_reckon cI cZ cJ ) out := by
  unfold f_X8_reckon at hf
  refine ge_i (by decide) (Nat.le_of_ble_eq_true rfl) (fun p e s m below meth c A H locs ls hC hW hl => ?_)
  have hC : g_C p s m meth c _ cX8_reckon 3 (some .int) RX8 := hC
  have hx := hC.1
  have hb := hC.2.1
  have hown := hC.2.2.2.2.1
  have hts := hC.2.2.2.2.2.1
  have hl : lv_has ls 3 [(0, .int x0), (1, .int x1), (2, .int x2)] := hl
  refine lv_iload_n hx hb dX8_reckon_0 rfl (lv_at hl 0 rfl) ?_
  by_cases c1 : x0 = 1
  · replace hf := (if_pos c1).symm.trans hf
    refine lv_tableIn (off := 31) (tgt := 32) hx hb dX8_reckon_1 (by rw [c1]; decide) (by rw [c1]; decide) (by rw [c1]; decide) (by decide) ?_
    refine lv_iload_n hx hb dX8_reckon_32 rfl (lv_at hl 1 rfl) ?_
    refine lv_iload_n hx hb dX8_reckon_33 rfl (lv_at hl 2 rfl) ?_
    refine lv_iadd hx hb dX8_reckon_34 ?_
    obtain rfl := Option.some.inj hf
    exact gs_ri hC hW rfl dX8_reckon_35
  · replace hf := (if_neg c1).symm.trans hf
    by_cases c2 : x0 = 2
    · replace hf := (if_pos c2).symm.trans hf
      refine lv_tableIn (off := 35) (tgt := 36) hx hb dX8_reckon_1 (by rw [c2]; decide) (by rw [c2]; decide) (by rw [c2]; decide) (by decide) ?_
      refine lv_iload_n hx hb dX8_reckon_36 rfl (lv_at hl 1 rfl) ?_
      refine lv_iload_n hx hb dX8_reckon_37 rfl (lv_at hl 2 rfl) ?_
      refine lv_isub hx hb dX8_reckon_38 ?_
      obtain rfl := Option.some.inj hf
      exact gs_ri hC hW rfl dX8_reckon_39
    · replace hf := (if_neg c2).symm.trans hf
      by_cases c3 : x0 = 3
      · replace hf := (if_pos c3).symm.trans hf
        refine lv_tableIn (off := 39) (tgt := 40) hx hb dX8_reckon_1 (by rw [c3]; decide) (by rw [c3]; decide) (by rw [c3]; decide) (by decide) ?_
        refine lv_iload_n hx hb dX8_reckon_40 rfl (lv_at hl 1 rfl) ?_
        refine lv_iload_n hx hb dX8_reckon_41 rfl (lv_at hl 2 rfl) ?_
        refine lv_imul hx hb dX8_reckon_42 ?_
        obtain rfl := Option.some.inj hf
        exact gs_ri hC hW rfl dX8_reckon_43
      · replace hf := (if_neg c3).symm.trans hf
        by_cases c4 : x0 = 4
        · replace hf := (if_pos c4).symm.trans hf
          refine lv_tableIn (off := 43) (tgt := 44) hx hb dX8_reckon_1 (by rw [c4]; decide) (by rw [c4]; decide) (by rw [c4]; decide) (by decide) ?_
          refine lv_iload_n hx hb dX8_reckon_44 rfl (lv_at hl 1 rfl) ?_
          refine lv_iload_n hx hb dX8_reckon_45 rfl (lv_at hl 2 rfl) ?_
          refine lv_icmp_ge (tgt := 53) hx hb dX8_reckon_46 (by decide) (fun c5 => ?_) (fun c5 => ?_)
          · replace hf := (if_pos c5).symm.trans hf
            refine lv_iconst (v := 0) hx hb dX8_reckon_53 (by decide) ?_
            obtain rfl := Option.some.inj hf
            exact gs_ri hC hW rfl dX8_reckon_54
          · replace hf := (if_neg c5).symm.trans hf
            refine lv_iconst (v := 1) hx hb dX8_reckon_49 (by decide) ?_
            refine lv_goto (tgt := 54) hx hb dX8_reckon_50 (by decide) ?_
            obtain rfl := Option.some.inj hf
            exact gs_ri hC hW rfl dX8_reckon_54
        · replace hf := (if_neg c4).symm.trans hf
          refine gs_tblD (n := 4) (tgt := 55) hx hb dX8_reckon_1 (by decide) (by decide) (fun j hj h9 => ?_) ?_
          · rcases (show j = 0 ∨ j = 1 ∨ j = 2 ∨ j = 3 by omega) with rfl | rfl | rfl | rfl
            · exact absurd (g_ti (k := 1) h9 (by decide)) c1
            · exact absurd (g_ti (k := 2) h9 (by decide)) c2
            · exact absurd (g_ti (k := 3) h9 (by decide)) c3
            · exact absurd (g_ti (k := 4) h9 (by decide)) c4
          · refine lv_iload_n hx hb dX8_reckon_55 rfl (lv_at hl 1 rfl) ?_
            obtain rfl := Option.some.inj hf
            exact gs_ri hC hW rfl dX8_reckon_56

abbrev w_X8_entry (cI cZ cJ : ClassId) (a_t : Nat) (a_t_table : Nat) (a_t_parameters : Nat) (a_t_length : Nat) (a_t_newLength : Nat) (a_t_first : Nat) (a_t_now : Nat) (a_t_anew : Nat) (a_t_inputs : Nat) (a_t_met : Nat) (a_t_any : Nat) (a_t_number : Nat) (a_t_outAny : Nat) (a_t_out : Nat) (a_t_at : Nat) (a_t_in : Nat) (a_t_back : Nat) (a_t_register : Nat) (a_t_output : Nat) (a_t_calls : Nat) (a_t_latest : Nat) (a_t_differ : Nat) (t_code : Int32) (t_own : Int32) (t_count : Int32) (t_tableSize : Int32) (t_given : Int32) (t_known : Int32) (t_news : Int32) (t_depth : Int32) (t_steps : Int32) (t_taken : Int32) (t_shown : Int32) (t_outcome : Int32) (t_table : Nat → Int32) : va_W := [(a_t, .inr (8, [.int t_code, .int t_own, .int t_count, .ref a_t_parameters, .ref a_t_length, .ref a_t_newLength, .ref a_t_first, .ref a_t_now, .ref a_t_anew, .int t_tableSize, .ref a_t_table, .int t_given, .ref a_t_inputs, .int t_known, .ref a_t_met, .ref a_t_any, .ref a_t_number, .int t_news, .ref a_t_outAny, .ref a_t_out, .int t_depth, .int t_steps, .int t_taken, .int t_shown, .ref a_t_at, .ref a_t_in, .ref a_t_back, .ref a_t_register, .ref a_t_output, .ref a_t_calls, .ref a_t_latest, .ref a_t_differ, .int t_outcome])), (a_t_table, .inl (cI, 4, .inl t_table))]
abbrev r_X8_entry : Room := { frames := 0, cells := 0, slots := 0, locals := 0 }
def f_X8_entry (x1 : Int32) (t_tableSize : Int32) (t_table : Nat → Int32) : Option (Int32) := (g_rm x1 t_tableSize).bind (fun v1 => if 0 ≤ v1 then (g_rd 4 t_table v1).bind (fun v3 => some v3) else (g_rd 4 t_table (v1 + t_tableSize)).bind (fun v4 => some v4))
set_option maxHeartbeats 4000000 in
set_option maxRecDepth 100000 in
theorem k_X8_entry (l : Launch) (tA : Nat) (dC : Nat → ClassId) (dI : Nat → Nat → Nat) (cI cZ cJ : ClassId) (a_t : Nat) (a_t_table : Nat) (a_t_parameters : Nat) (a_t_length : Nat) (a_t_newLength : Nat) (a_t_first : Nat) (a_t_now : Nat) (a_t_anew : Nat) (a_t_inputs : Nat) (a_t_met : Nat) (a_t_any : Nat) (a_t_number : Nat) (a_t_outAny : Nat) (a_t_out : Nat) (a_t_at : Nat) (a_t_in : Nat) (a_t_back : Nat) (a_t_register : Nat) (a_t_output : Nat) (a_t_calls : Nat) (a_t_latest : Nat) (a_t_differ : Nat) (x1 : Int32) (t_code : Int32) (t_own : Int32) (t_count : Int32) (t_tableSize : Int32) (t_given : Int32) (t_known : Int32) (t_news : Int32) (t_depth : Int32) (t_steps : Int32) (t_taken : Int32) (t_shown : Int32) (t_outcome : Int32) (t_table : Nat → Int32) (out : Int32) (hf : f_X8_entry x1 t_tableSize t_table = some out) : g_Mi l yX8_entry cX8_entry 3 (some .int) r_X8_entry tA dC dI cI cZ cJ [.ref a_t, .int x1] (w_X8_entry cI cZ cJ a_t a_t_table a_t_parameters a_t_length a_t_newLength a_t_first a_t_now a_t_anew a_t_inputs a_t_met a_t_any a_t_number a_t_outAny a_t_out a_t_at a_t_in a_t_back a_t_register a_t_output a_t_calls a_t_latest a_t_differ t_code t_own t_count t_tableSize t_given t_known t_news t_depth t_steps t_taken t_shown t_outcome t_table) (w_X8_entry cI cZ cJ a_t a_t_table a_t_parameters a_t_length a_t_newLength a_t_first a_t_now a_t_anew a_t_inputs a_t_met a_t_any a_t_number a_t_outAny a_t_out a_t_at a_t_in a_t_back a_t_register a_t_output a_t_calls a_t_latest a_t_differ t_code t_own t_count t_tableSize t_given t_known t_news t_depth t_steps t_taken t_shown t_outcome t_table) out := by
  unfold f_X8_entry at hf
  refine ge_i (by decide) (Nat.le_of_ble_eq_true rfl) (fun p e s m below meth c A H locs ls hC hW hl => ?_)
  have hC : g_C p s m meth c _ cX8_entry 3 (some .int) RX8 := hC
  have hx := hC.1
  have hb := hC.2.1
  have hown := hC.2.2.2.2.1
  have hts := hC.2.2.2.2.2.1
  have hl : lv_has ls 3 [(0, .ref a_t), (1, .int x1)] := hl
  refine lv_iload_n hx hb dX8_entry_0 rfl (lv_at hl 1 rfl) ?_
  refine lv_aload_n hx hb dX8_entry_1 rfl (lv_at hl 0 rfl) ?_
  refine gs_get hC hW in_X8 0 9 rfl rfl (by decide) fl_X8_106 rfl dX8_entry_2 ?_
  obtain ⟨v1, h1, hf⟩ := g_bnd hf
  refine gs_irem hC h1 dX8_entry_5 ?_
  refine lv_istore_n (lv' := [(2, .int v1), (0, .ref a_t), (1, .int x1)]) hx hb dX8_entry_6 rfl hl (by decide) rfl (fun ls hl => ?_)
  refine lv_aload_n hx hb dX8_entry_7 rfl (lv_at hl 1 rfl) ?_
  refine gs_get hC hW in_X8 0 10 rfl rfl (by decide) fl_X8_28 rfl dX8_entry_8 ?_
  refine lv_iload_n hx hb dX8_entry_11 rfl (lv_at hl 0 rfl) ?_
  refine lv_if_ge (tgt := 24) hx hb dX8_entry_12 (by decide) (fun c2 => ?_) (fun c2 => ?_)
  · replace hf := (if_pos c2).symm.trans hf
    refine lv_iload_n hx hb dX8_entry_24 rfl (lv_at hl 0 rfl) ?_
    obtain ⟨v3, h3, hf⟩ := g_bnd hf
    refine gs_iald hC hW 1 h3 rfl dX8_entry_25 ?_
    obtain rfl := Option.some.inj hf
    exact gs_ri hC hW rfl dX8_entry_26
  · replace hf := (if_neg c2).symm.trans hf
    refine lv_iload_n hx hb dX8_entry_15 rfl (lv_at hl 0 rfl) ?_
    refine lv_aload_n hx hb dX8_entry_16 rfl (lv_at hl 1 rfl) ?_
    refine gs_get hC hW in_X8 0 9 rfl rfl (by decide) fl_X8_106 rfl dX8_entry_17 ?_
    refine lv_iadd hx hb dX8_entry_20 ?_
    refine lv_goto (tgt := 25) hx hb dX8_entry_21 (by decide) ?_
    obtain ⟨v4, h4, hf⟩ := g_bnd hf
    refine gs_iald hC hW 1 h4 rfl dX8_entry_25 ?_
    obtain rfl := Option.some.inj hf
    exact gs_ri hC hW rfl dX8_entry_26

abbrev w_X8_enter (cI cZ cJ : ClassId) (a_t : Nat) (a_t_parameters : Nat) (a_t_length : Nat) (a_t_now : Nat) (a_t_met : Nat) (a_t_any : Nat) (a_t_number : Nat) (a_t_outAny : Nat) (a_t_out : Nat) (a_t_newLength : Nat) (a_t_first : Nat) (a_t_anew : Nat) (a_t_table : Nat) (a_t_inputs : Nat) (a_t_at : Nat) (a_t_in : Nat) (a_t_back : Nat) (a_t_register : Nat) (a_t_output : Nat) (a_t_calls : Nat) (a_t_latest : Nat) (a_t_differ : Nat) (t_code : Int32) (t_own : Int32) (t_count : Int32) (t_tableSize : Int32) (t_given : Int32) (t_known : Int32) (t_news : Int32) (t_depth : Int32) (t_steps : Int32) (t_taken : Int32) (t_shown : Int32) (t_outcome : Int32) (t_parameters : Nat → Int32) (t_length : Nat → Int32) (t_now : Nat → Int32) (t_met : Nat → Int32) (t_any : Nat → Int32) (t_number : Nat → Int32) (t_outAny : Nat → Int32) (t_out : Nat → Int32) : va_W := [(a_t, .inr (8, [.int t_code, .int t_own, .int t_count, .ref a_t_parameters, .ref a_t_length, .ref a_t_newLength, .ref a_t_first, .ref a_t_now, .ref a_t_anew, .int t_tableSize, .ref a_t_table, .int t_given, .ref a_t_inputs, .int t_known, .ref a_t_met, .ref a_t_any, .ref a_t_number, .int t_news, .ref a_t_outAny, .ref a_t_out, .int t_depth, .int t_steps, .int t_taken, .int t_shown, .ref a_t_at, .ref a_t_in, .ref a_t_back, .ref a_t_register, .ref a_t_output, .ref a_t_calls, .ref a_t_latest, .ref a_t_differ, .int t_outcome])), (a_t_parameters, .inl (cI, 12, .inl t_parameters)), (a_t_length, .inl (cI, 12, .inl t_length)), (a_t_now, .inl (cI, 1152, .inl t_now)), (a_t_met, .inl (cZ, 204, .inl t_met)), (a_t_any, .inl (cZ, 1224, .inl t_any)), (a_t_number, .inl (cI, 1224, .inl t_number)), (a_t_outAny, .inl (cZ, 6, .inl t_outAny)), (a_t_out, .inl (cI, 6, .inl t_out))]
abbrev r_X8_enter : Room := { frames := 2, cells := 0, slots := 0, locals := 42 }
def f_X8_enter_76 (N : Nat) (k3 : Int32 → Int32 → (Nat → Int32) → (Nat → Int32) → (Nat → Int32) → (Nat → Int32) → (Nat → Int32) → Option (Int32 × (Nat → Int32) × (Nat → Int32) × (Nat → Int32) × (Nat → Int32) × (Nat → Int32))) (x1 : Int32) (x2 : Int32) (x3 : Int32) (t_parameters : Nat → Int32) (t_length : Nat → Int32) (t_now : Nat → Int32) (x4 : Int32) (x5 : Int32) (x6 : Int32) (z0 : Int32) (z1 : Int32) (t_news : Int32) (t_met : Nat → Int32) (t_any : Nat → Int32) (t_number : Nat → Int32) (t_outAny : Nat → Int32) (t_out : Nat → Int32) : Option (Int32 × (Nat → Int32) × (Nat → Int32) × (Nat → Int32) × (Nat → Int32) × (Nat → Int32)) := (g_wz 6 t_outAny z1 z0).bind (fun s1 => if x5 = 0 then (g_wr 6 t_out x4 0).bind (fun s3 => k3 (x4 + 1) t_news t_met t_any t_number s1 s3) else (g_rd 6 s1 x4).bind (fun v4 => if v4 = 0 then (f_X8_valueAt x3 x6 t_number).bind (fun o7 => (g_wr 6 t_out x4 o7).bind (fun s8 => k3 (x4 + 1) t_news t_met t_any t_number s1 s8)) else (g_wr 6 t_out x4 0).bind (fun s6 => k3 (x4 + 1) t_news t_met t_any t_number s1 s6)))
set_option maxHeartbeats 4000000 in
set_option maxRecDepth 100000 in
theorem b_X8_enter_76 {p : Program} {l : Launch} {e : Env} {s : State} {m : MethodId} {args : Array Value} {below : List Frame} {meth : Method} {c : Code} {tA : Nat} {dC : Nat → ClassId} {dI : Nat → Nat → Nat} {cI cZ cJ : ClassId} {A : Nat → Prop} {a_t : Nat} {a_t_parameters : Nat} {a_t_length : Nat} {a_t_now : Nat} {a_t_met : Nat} {a_t_any : Nat} {a_t_number : Nat} {a_t_outAny : Nat} {a_t_out : Nat} {a_t_newLength : Nat} {a_t_first : Nat} {a_t_anew : Nat} {a_t_table : Nat} {a_t_inputs : Nat} {a_t_at : Nat} {a_t_in : Nat} {a_t_back : Nat} {a_t_register : Nat} {a_t_output : Nat} {a_t_calls : Nat} {a_t_latest : Nat} {a_t_differ : Nat} {x1 : Int32} {x2 : Int32} {x3 : Int32} {t_parameters : Nat → Int32} {t_length : Nat → Int32} {t_now : Nat → Int32} {t_code : Int32} {t_own : Int32} {t_count : Int32} {t_tableSize : Int32} {t_given : Int32} {t_known : Int32} {t_depth : Int32} {t_steps : Int32} {t_taken : Int32} {t_shown : Int32} {t_outcome : Int32} {N : Nat} {k3 : Int32 → Int32 → (Nat → Int32) → (Nat → Int32) → (Nat → Int32) → (Nat → Int32) → (Nat → Int32) → Option (Int32 × (Nat → Int32) × (Nat → Int32) × (Nat → Int32) × (Nat → Int32) × (Nat → Int32))} {x4 : Int32} {x5 : Int32} {x6 : Int32} {z0 : Int32} {z1 : Int32} {t_news : Int32} {t_met : Nat → Int32} {t_any : Nat → Int32} {t_number : Nat → Int32} {t_outAny : Nat → Int32} {t_out : Nat → Int32} {out : Int32 × (Nat → Int32) × (Nat → Int32) × (Nat → Int32) × (Nat → Int32) × (Nat → Int32)} (hC : g_C p s m meth c args cX8_enter 7 (none : Option Jvm.ClassFile.FieldType) RX8) (hk3 : ∀ (x4 : Int32) (t_news : Int32) (t_met : Nat → Int32) (t_any : Nat → Int32) (t_number : Nat → Int32) (t_outAny : Nat → Int32) (t_out : Nat → Int32) (out : Int32 × (Nat → Int32) × (Nat → Int32) × (Nat → Int32) × (Nat → Int32) × (Nat → Int32)), k3 x4 t_news t_met t_any t_number t_outAny t_out = some out → ∀ (H : Heap) (locs : List Loc) (ls : Array Slot), g_W tA dC dI cI cZ cJ A s H locs (w_X8_enter cI cZ cJ a_t a_t_parameters a_t_length a_t_now a_t_met a_t_any a_t_number a_t_outAny a_t_out a_t_newLength a_t_first a_t_anew a_t_table a_t_inputs a_t_at a_t_in a_t_back a_t_register a_t_output a_t_calls a_t_latest a_t_differ t_code t_own t_count t_tableSize t_given t_known t_news t_depth t_steps t_taken t_shown t_outcome t_parameters t_length t_now t_met t_any t_number t_outAny t_out) → lv_has ls 7 [(0, .ref a_t), (1, .int x1), (2, .int x2), (3, .int x3), (4, .int x4)] → W p l e r_X8_enter s m args below meth c H locs 0 0 (MQ below (g_Qv dC dI cI cZ cJ A (w_X8_enter cI cZ cJ a_t a_t_parameters a_t_length a_t_now a_t_met a_t_any a_t_number a_t_outAny a_t_out a_t_newLength a_t_first a_t_anew a_t_table a_t_inputs a_t_at a_t_in a_t_back a_t_register a_t_output a_t_calls a_t_latest a_t_differ t_code t_own t_count t_tableSize t_given t_known out.1 t_depth t_steps t_taken t_shown t_outcome t_parameters t_length t_now out.2.1 out.2.2.1 out.2.2.2.1 out.2.2.2.2.1 out.2.2.2.2.2)) args s 0 0 A) (F0 m 3 ls [])) (hf : f_X8_enter_76 N k3 x1 x2 x3 t_parameters t_length t_now x4 x5 x6 z0 z1 t_news t_met t_any t_number t_outAny t_out = some out) {H : Heap} {locs : List Loc} {ls : Array Slot} (hW : g_W tA dC dI cI cZ cJ A s H locs (w_X8_enter cI cZ cJ a_t a_t_parameters a_t_length a_t_now a_t_met a_t_any a_t_number a_t_outAny a_t_out a_t_newLength a_t_first a_t_anew a_t_table a_t_inputs a_t_at a_t_in a_t_back a_t_register a_t_output a_t_calls a_t_latest a_t_differ t_code t_own t_count t_tableSize t_given t_known t_news t_depth t_steps t_taken t_shown t_outcome t_parameters t_length t_now t_met t_any t_number t_outAny t_out)) (hl : lv_has ls 7 [(0, .ref a_t), (1, .int x1), (2, .int x2), (3, .int x3), (4, .int x4), (5, .int x5), (6, .int x6)]) : W p l e r_X8_enter s m args below meth c H locs 0 0 (MQ below (g_Qv dC dI cI cZ cJ A (w_X8_enter cI cZ cJ a_t a_t_parameters a_t_length a_t_now a_t_met a_t_any a_t_number a_t_outAny a_t_out a_t_newLength a_t_first a_t_anew a_t_table a_t_inputs a_t_at a_t_in a_t_back a_t_register a_t_output a_t_calls a_t_latest a_t_differ t_code t_own t_count t_tableSize t_given t_known out.1 t_depth t_steps t_taken t_shown t_outcome t_parameters t_length t_now out.2.1 out.2.2.1 out.2.2.2.1 out.2.2.2.2.1 out.2.2.2.2.2)) args s 0 0 A) (F0 m 76 ls [.int z0, .int z1, .ref a_t_outAny]) := by
  have hx := hC.1
  have hb := hC.2.1
  have hown := hC.2.2.2.2.1
  have hts := hC.2.2.2.2.2.1
  unfold f_X8_enter_76 at hf
  obtain ⟨s1, h1, hf⟩ := g_bnd hf
  refine gs_zast (ws' := w_X8_enter cI cZ cJ a_t a_t_parameters a_t_length a_t_now a_t_met a_t_any a_t_number a_t_outAny a_t_out a_t_newLength a_t_first a_t_anew a_t_table a_t_inputs a_t_at a_t_in a_t_back a_t_register a_t_output a_t_calls a_t_latest a_t_differ t_code t_own t_count t_tableSize t_given t_known t_news t_depth t_steps t_taken t_shown t_outcome t_parameters t_length t_now t_met t_any t_number s1 t_out) hC hW 7 h1 rfl rfl dX8_enter_76 (fun H locs hW => ?_)
  refine lv_aload_n hx hb dX8_enter_77 rfl (lv_at hl 0 rfl) ?_
  refine gs_get hC hW in_X8 0 19 rfl rfl (by decide) fl_X8_47 rfl dX8_enter_78 ?_
  refine lv_iload hx hb dX8_enter_81 (lv_at hl 4 rfl) ?_
  refine lv_iload hx hb dX8_enter_83 (lv_at hl 5 rfl) ?_
  refine lv_if_eq (tgt := 108) hx hb dX8_enter_85 (by decide) (fun c2 => ?_) (fun c2 => ?_)
  · replace hf := (if_pos c2).symm.trans hf
    refine lv_iconst (v := 0) hx hb dX8_enter_108 (by decide) ?_
    obtain ⟨s3, h3, hf⟩ := g_bnd hf
    refine gs_iast (ws' := w_X8_enter cI cZ cJ a_t a_t_parameters a_t_length a_t_now a_t_met a_t_any a_t_number a_t_outAny a_t_out a_t_newLength a_t_first a_t_anew a_t_table a_t_inputs a_t_at a_t_in a_t_back a_t_register a_t_output a_t_calls a_t_latest a_t_differ t_code t_own t_count t_tableSize t_given t_known t_news t_depth t_steps t_taken t_shown t_outcome t_parameters t_length t_now t_met t_any t_number s1 s3) hC hW 8 h3 rfl rfl dX8_enter_109 (fun H locs hW => ?_)
    refine lv_iinc (v := x4 + 1) (lv' := [(4, .int (x4 + 1)), (0, .ref a_t), (1, .int x1), (2, .int x2), (3, .int x3), (5, .int x5), (6, .int x6)]) hx hb dX8_enter_110 hl (k := 4) rfl rfl (by decide) rfl (fun ls hl => ?_)
    refine lv_goto (tgt := 3) hx hb dX8_enter_113 (by decide) ?_
    exact hk3 _ _ _ _ _ _ _ _ hf _ _ _ hW (lv_sub hl [1, 2, 3, 4, 0] rfl)
  · replace hf := (if_neg c2).symm.trans hf
    refine lv_aload_n hx hb dX8_enter_88 rfl (lv_at hl 0 rfl) ?_
    refine gs_get hC hW in_X8 0 18 rfl rfl (by decide) fl_X8_44 rfl dX8_enter_89 ?_
    refine lv_iload hx hb dX8_enter_92 (lv_at hl 4 rfl) ?_
    obtain ⟨v4, h4, hf⟩ := g_bnd hf
    refine gs_zald hC hW 7 h4 rfl dX8_enter_94 ?_
    refine lv_if_ne (tgt := 108) hx hb dX8_enter_95 (by decide) (fun c5 => ?_) (fun c5 => ?_)
    · replace hf := (if_neg c5).symm.trans hf
      refine lv_iconst (v := 0) hx hb dX8_enter_108 (by decide) ?_
      obtain ⟨s6, h6, hf⟩ := g_bnd hf
      refine gs_iast (ws' := w_X8_enter cI cZ cJ a_t a_t_parameters a_t_length a_t_now a_t_met a_t_any a_t_number a_t_outAny a_t_out a_t_newLength a_t_first a_t_anew a_t_table a_t_inputs a_t_at a_t_in a_t_back a_t_register a_t_output a_t_calls a_t_latest a_t_differ t_code t_own t_count t_tableSize t_given t_known t_news t_depth t_steps t_taken t_shown t_outcome t_parameters t_length t_now t_met t_any t_number s1 s6) hC hW 8 h6 rfl rfl dX8_enter_109 (fun H locs hW => ?_)
      refine lv_iinc (v := x4 + 1) (lv' := [(4, .int (x4 + 1)), (0, .ref a_t), (1, .int x1), (2, .int x2), (3, .int x3), (5, .int x5), (6, .int x6)]) hx hb dX8_enter_110 hl (k := 4) rfl rfl (by decide) rfl (fun ls hl => ?_)
      refine lv_goto (tgt := 3) hx hb dX8_enter_113 (by decide) ?_
      exact hk3 _ _ _ _ _ _ _ _ hf _ _ _ hW (lv_sub hl [1, 2, 3, 4, 0] rfl)
    · replace hf := (if_pos c5).symm.trans hf
      refine lv_aload_n hx hb dX8_enter_98 rfl (lv_at hl 0 rfl) ?_
      refine lv_iload_n hx hb dX8_enter_99 rfl (lv_at hl 3 rfl) ?_
      refine lv_iload hx hb dX8_enter_100 (lv_at hl 6 rfl) ?_
      obtain ⟨o7, h7, hf⟩ := g_bnd hf
      refine gs_callVi (ws' := w_X8_enter cI cZ cJ a_t a_t_parameters a_t_length a_t_now a_t_met a_t_any a_t_number a_t_outAny a_t_out a_t_newLength a_t_first a_t_anew a_t_table a_t_inputs a_t_at a_t_in a_t_back a_t_register a_t_output a_t_calls a_t_latest a_t_differ t_code t_own t_count t_tableSize t_given t_known t_news t_depth t_steps t_taken t_shown t_outcome t_parameters t_length t_now t_met t_any t_number s1 t_out) hC hW (k_X8_valueAt l tA dC dI cI cZ cJ a_t a_t_number a_t_parameters a_t_length a_t_newLength a_t_first a_t_now a_t_anew a_t_table a_t_inputs a_t_met a_t_any a_t_outAny a_t_out a_t_at a_t_in a_t_back a_t_register a_t_output a_t_calls a_t_latest a_t_differ x3 x6 t_code t_own t_count t_tableSize t_given t_known t_news t_depth t_steps t_taken t_shown t_outcome t_number _ h7) yk_X8_valueAt lk_X8_122 iv_X8_valueAt ⟨rfl, rfl⟩ ⟨Nat.le_of_ble_eq_true rfl, Nat.le_of_ble_eq_true rfl⟩ hl.1 0 rfl rfl [0, 6] [1, 2, 3, 4, 5, 7, 8] [7, 0, 1, 2, 3, 4, 8, 5, 6] rfl rfl rfl rfl (by decide) rfl rfl rfl rfl (Nat.le_of_ble_eq_true rfl) dX8_enter_102 ⟨Nat.zero_le _, Nat.zero_le _⟩ (fun H locs hW => ?_)
      refine lv_goto (tgt := 109) hx hb dX8_enter_105 (by decide) ?_
      obtain ⟨s8, h8, hf⟩ := g_bnd hf
      refine gs_iast (ws' := w_X8_enter cI cZ cJ a_t a_t_parameters a_t_length a_t_now a_t_met a_t_any a_t_number a_t_outAny a_t_out a_t_newLength a_t_first a_t_anew a_t_table a_t_inputs a_t_at a_t_in a_t_back a_t_register a_t_output a_t_calls a_t_latest a_t_differ t_code t_own t_count t_tableSize t_given t_known t_news t_depth t_steps t_taken t_shown t_outcome t_parameters t_length t_now t_met t_any t_number s1 s8) hC hW 8 h8 rfl rfl dX8_enter_109 (fun H locs hW => ?_)
      refine lv_iinc (v := x4 + 1) (lv' := [(4, .int (x4 + 1)), (0, .ref a_t), (1, .int x1), (2, .int x2), (3, .int x3), (5, .int x5), (6, .int x6)]) hx hb dX8_enter_110 hl (k := 4) rfl rfl (by decide) rfl (fun ls hl => ?_)
      refine lv_goto (tgt := 3) hx hb dX8_enter_113 (by decide) ?_
      exact hk3 _ _ _ _ _ _ _ _ hf _ _ _ hW (lv_sub hl [1, 2, 3, 4, 0] rfl)
def f_X8_enter_48 (N : Nat) (k3 : Int32 → Int32 → (Nat → Int32) → (Nat → Int32) → (Nat → Int32) → (Nat → Int32) → (Nat → Int32) → Option (Int32 × (Nat → Int32) × (Nat → Int32) × (Nat → Int32) × (Nat → Int32) × (Nat → Int32))) (x1 : Int32) (x2 : Int32) (x3 : Int32) (t_parameters : Nat → Int32) (t_length : Nat → Int32) (t_now : Nat → Int32) (x4 : Int32) (x5 : Int32) (z0 : Int32) (t_news : Int32) (t_met : Nat → Int32) (t_any : Nat → Int32) (t_number : Nat → Int32) (t_outAny : Nat → Int32) (t_out : Nat → Int32) : Option (Int32 × (Nat → Int32) × (Nat → Int32) × (Nat → Int32) × (Nat → Int32) × (Nat → Int32)) := if x5 = 0 then f_X8_enter_76 N k3 x1 x2 x3 t_parameters t_length t_now x4 x5 z0 0 x4 t_news t_met t_any t_number t_outAny t_out else (f_X8_has x3 z0 t_any).bind (fun o10 => if o10 = 0 then f_X8_enter_76 N k3 x1 x2 x3 t_parameters t_length t_now x4 x5 z0 1 x4 t_news t_met t_any t_number t_outAny t_out else f_X8_enter_76 N k3 x1 x2 x3 t_parameters t_length t_now x4 x5 z0 0 x4 t_news t_met t_any t_number t_outAny t_out)
set_option maxHeartbeats 4000000 in
set_option maxRecDepth 100000 in
theorem b_X8_enter_48 {p : Program} {l : Launch} {e : Env} {s : State} {m : MethodId} {args : Array Value} {below : List Frame} {meth : Method} {c : Code} {tA : Nat} {dC : Nat → ClassId} {dI : Nat → Nat → Nat} {cI cZ cJ : ClassId} {A : Nat → Prop} {a_t : Nat} {a_t_parameters : Nat} {a_t_length : Nat} {a_t_now : Nat} {a_t_met : Nat} {a_t_any : Nat} {a_t_number : Nat} {a_t_outAny : Nat} {a_t_out : Nat} {a_t_newLength : Nat} {a_t_first : Nat} {a_t_anew : Nat} {a_t_table : Nat} {a_t_inputs : Nat} {a_t_at : Nat} {a_t_in : Nat} {a_t_back : Nat} {a_t_register : Nat} {a_t_output : Nat} {a_t_calls : Nat} {a_t_latest : Nat} {a_t_differ : Nat} {x1 : Int32} {x2 : Int32} {x3 : Int32} {t_parameters : Nat → Int32} {t_length : Nat → Int32} {t_now : Nat → Int32} {t_code : Int32} {t_own : Int32} {t_count : Int32} {t_tableSize : Int32} {t_given : Int32} {t_known : Int32} {t_depth : Int32} {t_steps : Int32} {t_taken : Int32} {t_shown : Int32} {t_outcome : Int32} {N : Nat} {k3 : Int32 → Int32 → (Nat → Int32) → (Nat → Int32) → (Nat → Int32) → (Nat → Int32) → (Nat → Int32) → Option (Int32 × (Nat → Int32) × (Nat → Int32) × (Nat → Int32) × (Nat → Int32) × (Nat → Int32))} {x4 : Int32} {x5 : Int32} {z0 : Int32} {t_news : Int32} {t_met : Nat → Int32} {t_any : Nat → Int32} {t_number : Nat → Int32} {t_outAny : Nat → Int32} {t_out : Nat → Int32} {out : Int32 × (Nat → Int32) × (Nat → Int32) × (Nat → Int32) × (Nat → Int32) × (Nat → Int32)} (hC : g_C p s m meth c args cX8_enter 7 (none : Option Jvm.ClassFile.FieldType) RX8) (hk3 : ∀ (x4 : Int32) (t_news : Int32) (t_met : Nat → Int32) (t_any : Nat → Int32) (t_number : Nat → Int32) (t_outAny : Nat → Int32) (t_out : Nat → Int32) (out : Int32 × (Nat → Int32) × (Nat → Int32) × (Nat → Int32) × (Nat → Int32) × (Nat → Int32)), k3 x4 t_news t_met t_any t_number t_outAny t_out = some out → ∀ (H : Heap) (locs : List Loc) (ls : Array Slot), g_W tA dC dI cI cZ cJ A s H locs (w_X8_enter cI cZ cJ a_t a_t_parameters a_t_length a_t_now a_t_met a_t_any a_t_number a_t_outAny a_t_out a_t_newLength a_t_first a_t_anew a_t_table a_t_inputs a_t_at a_t_in a_t_back a_t_register a_t_output a_t_calls a_t_latest a_t_differ t_code t_own t_count t_tableSize t_given t_known t_news t_depth t_steps t_taken t_shown t_outcome t_parameters t_length t_now t_met t_any t_number t_outAny t_out) → lv_has ls 7 [(0, .ref a_t), (1, .int x1), (2, .int x2), (3, .int x3), (4, .int x4)] → W p l e r_X8_enter s m args below meth c H locs 0 0 (MQ below (g_Qv dC dI cI cZ cJ A (w_X8_enter cI cZ cJ a_t a_t_parameters a_t_length a_t_now a_t_met a_t_any a_t_number a_t_outAny a_t_out a_t_newLength a_t_first a_t_anew a_t_table a_t_inputs a_t_at a_t_in a_t_back a_t_register a_t_output a_t_calls a_t_latest a_t_differ t_code t_own t_count t_tableSize t_given t_known out.1 t_depth t_steps t_taken t_shown t_outcome t_parameters t_length t_now out.2.1 out.2.2.1 out.2.2.2.1 out.2.2.2.2.1 out.2.2.2.2.2)) args s 0 0 A) (F0 m 3 ls [])) (hf : f_X8_enter_48 N k3 x1 x2 x3 t_parameters t_length t_now x4 x5 z0 t_news t_met t_any t_number t_outAny t_out = some out) {H : Heap} {locs : List Loc} {ls : Array Slot} (hW : g_W tA dC dI cI cZ cJ A s H locs (w_X8_enter cI cZ cJ a_t a_t_parameters a_t_length a_t_now a_t_met a_t_any a_t_number a_t_outAny a_t_out a_t_newLength a_t_first a_t_anew a_t_table a_t_inputs a_t_at a_t_in a_t_back a_t_register a_t_output a_t_calls a_t_latest a_t_differ t_code t_own t_count t_tableSize t_given t_known t_news t_depth t_steps t_taken t_shown t_outcome t_parameters t_length t_now t_met t_any t_number t_outAny t_out)) (hl : lv_has ls 7 [(0, .ref a_t), (1, .int x1), (2, .int x2), (3, .int x3), (4, .int x4), (5, .int x5)]) : W p l e r_X8_enter s m args below meth c H locs 0 0 (MQ below (g_Qv dC dI cI cZ cJ A (w_X8_enter cI cZ cJ a_t a_t_parameters a_t_length a_t_now a_t_met a_t_any a_t_number a_t_outAny a_t_out a_t_newLength a_t_first a_t_anew a_t_table a_t_inputs a_t_at a_t_in a_t_back a_t_register a_t_output a_t_calls a_t_latest a_t_differ t_code t_own t_count t_tableSize t_given t_known out.1 t_depth t_steps t_taken t_shown t_outcome t_parameters t_length t_now out.2.1 out.2.2.1 out.2.2.2.1 out.2.2.2.2.1 out.2.2.2.2.2)) args s 0 0 A) (F0 m 48 ls [.int z0]) := by
  have hx := hC.1
  have hb := hC.2.1
  have hown := hC.2.2.2.2.1
  have hts := hC.2.2.2.2.2.1
  unfold f_X8_enter_48 at hf
  refine lv_istore (lv' := [(6, .int z0), (0, .ref a_t), (1, .int x1), (2, .int x2), (3, .int x3), (4, .int x4), (5, .int x5)]) hx hb dX8_enter_48 hl (by decide) rfl (fun ls hl => ?_)
  refine lv_aload_n hx hb dX8_enter_50 rfl (lv_at hl 1 rfl) ?_
  refine gs_get hC hW in_X8 0 18 rfl rfl (by decide) fl_X8_44 rfl dX8_enter_51 ?_
  refine lv_iload hx hb dX8_enter_54 (lv_at hl 5 rfl) ?_
  refine lv_iload hx hb dX8_enter_56 (lv_at hl 6 rfl) ?_
  refine lv_if_eq (tgt := 75) hx hb dX8_enter_58 (by decide) (fun c9 => ?_) (fun c9 => ?_)
  · replace hf := (if_pos c9).symm.trans hf
    refine lv_iconst (v := 0) hx hb dX8_enter_75 (by decide) ?_
    exact b_X8_enter_76 hC hk3 hf hW (lv_sub hl [1, 2, 3, 4, 5, 6, 0] rfl)
  · replace hf := (if_neg c9).symm.trans hf
    refine lv_aload_n hx hb dX8_enter_61 rfl (lv_at hl 1 rfl) ?_
    refine lv_iload_n hx hb dX8_enter_62 rfl (lv_at hl 4 rfl) ?_
    refine lv_iload hx hb dX8_enter_63 (lv_at hl 0 rfl) ?_
    obtain ⟨o10, h10, hf⟩ := g_bnd hf
    refine gs_callVi (ws' := w_X8_enter cI cZ cJ a_t a_t_parameters a_t_length a_t_now a_t_met a_t_any a_t_number a_t_outAny a_t_out a_t_newLength a_t_first a_t_anew a_t_table a_t_inputs a_t_at a_t_in a_t_back a_t_register a_t_output a_t_calls a_t_latest a_t_differ t_code t_own t_count t_tableSize t_given t_known t_news t_depth t_steps t_taken t_shown t_outcome t_parameters t_length t_now t_met t_any t_number t_outAny t_out) hC hW (k_X8_has l tA dC dI cI cZ cJ a_t a_t_any a_t_parameters a_t_length a_t_newLength a_t_first a_t_now a_t_anew a_t_table a_t_inputs a_t_met a_t_number a_t_outAny a_t_out a_t_at a_t_in a_t_back a_t_register a_t_output a_t_calls a_t_latest a_t_differ x3 z0 t_code t_own t_count t_tableSize t_given t_known t_news t_depth t_steps t_taken t_shown t_outcome t_any _ h10) yk_X8_has lk_X8_118 iv_X8_has ⟨rfl, rfl⟩ ⟨Nat.le_of_ble_eq_true rfl, Nat.le_of_ble_eq_true rfl⟩ hl.1 0 rfl rfl [0, 5] [1, 2, 3, 4, 6, 7, 8] [7, 0, 1, 2, 3, 8, 4, 5, 6] rfl rfl rfl rfl (by decide) rfl rfl rfl rfl (Nat.le_of_ble_eq_true rfl) dX8_enter_65 ⟨Nat.zero_le _, Nat.zero_le _⟩ (fun H locs hW => ?_)
    refine lv_if_ne (tgt := 75) hx hb dX8_enter_68 (by decide) (fun c11 => ?_) (fun c11 => ?_)
    · replace hf := (if_neg c11).symm.trans hf
      refine lv_iconst (v := 0) hx hb dX8_enter_75 (by decide) ?_
      exact b_X8_enter_76 hC hk3 hf hW (lv_sub hl [1, 2, 3, 4, 5, 6, 0] rfl)
    · replace hf := (if_pos c11).symm.trans hf
      refine lv_iconst (v := 1) hx hb dX8_enter_71 (by decide) ?_
      refine lv_goto (tgt := 76) hx hb dX8_enter_72 (by decide) ?_
      exact b_X8_enter_76 hC hk3 hf hW (lv_sub hl [1, 2, 3, 4, 5, 6, 0] rfl)
def f_X8_enter_26 (N : Nat) (k3 : Int32 → Int32 → (Nat → Int32) → (Nat → Int32) → (Nat → Int32) → (Nat → Int32) → (Nat → Int32) → Option (Int32 × (Nat → Int32) × (Nat → Int32) × (Nat → Int32) × (Nat → Int32) × (Nat → Int32))) (x1 : Int32) (x2 : Int32) (x3 : Int32) (t_parameters : Nat → Int32) (t_length : Nat → Int32) (t_now : Nat → Int32) (x4 : Int32) (z0 : Int32) (t_news : Int32) (t_met : Nat → Int32) (t_any : Nat → Int32) (t_number : Nat → Int32) (t_outAny : Nat → Int32) (t_out : Nat → Int32) : Option (Int32 × (Nat → Int32) × (Nat → Int32) × (Nat → Int32) × (Nat → Int32) × (Nat → Int32)) := if z0 = 0 then f_X8_enter_48 N k3 x1 x2 x3 t_parameters t_length t_now x4 z0 0 t_news t_met t_any t_number t_outAny t_out else (g_rd 1152 t_now ((x2 + 3) + x4)).bind (fun v13 => f_X8_enter_48 N k3 x1 x2 x3 t_parameters t_length t_now x4 z0 v13 t_news t_met t_any t_number t_outAny t_out)
set_option maxHeartbeats 4000000 in
set_option maxRecDepth 100000 in
theorem b_X8_enter_26 {p : Program} {l : Launch} {e : Env} {s : State} {m : MethodId} {args : Array Value} {below : List Frame} {meth : Method} {c : Code} {tA : Nat} {dC : Nat → ClassId} {dI : Nat → Nat → Nat} {cI cZ cJ : ClassId} {A : Nat → Prop} {a_t : Nat} {a_t_parameters : Nat} {a_t_length : Nat} {a_t_now : Nat} {a_t_met : Nat} {a_t_any : Nat} {a_t_number : Nat} {a_t_outAny : Nat} {a_t_out : Nat} {a_t_newLength : Nat} {a_t_first : Nat} {a_t_anew : Nat} {a_t_table : Nat} {a_t_inputs : Nat} {a_t_at : Nat} {a_t_in : Nat} {a_t_back : Nat} {a_t_register : Nat} {a_t_output : Nat} {a_t_calls : Nat} {a_t_latest : Nat} {a_t_differ : Nat} {x1 : Int32} {x2 : Int32} {x3 : Int32} {t_parameters : Nat → Int32} {t_length : Nat → Int32} {t_now : Nat → Int32} {t_code : Int32} {t_own : Int32} {t_count : Int32} {t_tableSize : Int32} {t_given : Int32} {t_known : Int32} {t_depth : Int32} {t_steps : Int32} {t_taken : Int32} {t_shown : Int32} {t_outcome : Int32} {N : Nat} {k3 : Int32 → Int32 → (Nat → Int32) → (Nat → Int32) → (Nat → Int32) → (Nat → Int32) → (Nat → Int32) → Option (Int32 × (Nat → Int32) × (Nat → Int32) × (Nat → Int32) × (Nat → Int32) × (Nat → Int32))} {x4 : Int32} {z0 : Int32} {t_news : Int32} {t_met : Nat → Int32} {t_any : Nat → Int32} {t_number : Nat → Int32} {t_outAny : Nat → Int32} {t_out : Nat → Int32} {out : Int32 × (Nat → Int32) × (Nat → Int32) × (Nat → Int32) × (Nat → Int32) × (Nat → Int32)} (hC : g_C p s m meth c args cX8_enter 7 (none : Option Jvm.ClassFile.FieldType) RX8) (hk3 : ∀ (x4 : Int32) (t_news : Int32) (t_met : Nat → Int32) (t_any : Nat → Int32) (t_number : Nat → Int32) (t_outAny : Nat → Int32) (t_out : Nat → Int32) (out : Int32 × (Nat → Int32) × (Nat → Int32) × (Nat → Int32) × (Nat → Int32) × (Nat → Int32)), k3 x4 t_news t_met t_any t_number t_outAny t_out = some out → ∀ (H : Heap) (locs : List Loc) (ls : Array Slot), g_W tA dC dI cI cZ cJ A s H locs (w_X8_enter cI cZ cJ a_t a_t_parameters a_t_length a_t_now a_t_met a_t_any a_t_number a_t_outAny a_t_out a_t_newLength a_t_first a_t_anew a_t_table a_t_inputs a_t_at a_t_in a_t_back a_t_register a_t_output a_t_calls a_t_latest a_t_differ t_code t_own t_count t_tableSize t_given t_known t_news t_depth t_steps t_taken t_shown t_outcome t_parameters t_length t_now t_met t_any t_number t_outAny t_out) → lv_has ls 7 [(0, .ref a_t), (1, .int x1), (2, .int x2), (3, .int x3), (4, .int x4)] → W p l e r_X8_enter s m args below meth c H locs 0 0 (MQ below (g_Qv dC dI cI cZ cJ A (w_X8_enter cI cZ cJ a_t a_t_parameters a_t_length a_t_now a_t_met a_t_any a_t_number a_t_outAny a_t_out a_t_newLength a_t_first a_t_anew a_t_table a_t_inputs a_t_at a_t_in a_t_back a_t_register a_t_output a_t_calls a_t_latest a_t_differ t_code t_own t_count t_tableSize t_given t_known out.1 t_depth t_steps t_taken t_shown t_outcome t_parameters t_length t_now out.2.1 out.2.2.1 out.2.2.2.1 out.2.2.2.2.1 out.2.2.2.2.2)) args s 0 0 A) (F0 m 3 ls [])) (hf : f_X8_enter_26 N k3 x1 x2 x3 t_parameters t_length t_now x4 z0 t_news t_met t_any t_number t_outAny t_out = some out) {H : Heap} {locs : List Loc} {ls : Array Slot} (hW : g_W tA dC dI cI cZ cJ A s H locs (w_X8_enter cI cZ cJ a_t a_t_parameters a_t_length a_t_now a_t_met a_t_any a_t_number a_t_outAny a_t_out a_t_newLength a_t_first a_t_anew a_t_table a_t_inputs a_t_at a_t_in a_t_back a_t_register a_t_output a_t_calls a_t_latest a_t_differ t_code t_own t_count t_tableSize t_given t_known t_news t_depth t_steps t_taken t_shown t_outcome t_parameters t_length t_now t_met t_any t_number t_outAny t_out)) (hl : lv_has ls 7 [(0, .ref a_t), (1, .int x1), (2, .int x2), (3, .int x3), (4, .int x4)]) : W p l e r_X8_enter s m args below meth c H locs 0 0 (MQ below (g_Qv dC dI cI cZ cJ A (w_X8_enter cI cZ cJ a_t a_t_parameters a_t_length a_t_now a_t_met a_t_any a_t_number a_t_outAny a_t_out a_t_newLength a_t_first a_t_anew a_t_table a_t_inputs a_t_at a_t_in a_t_back a_t_register a_t_output a_t_calls a_t_latest a_t_differ t_code t_own t_count t_tableSize t_given t_known out.1 t_depth t_steps t_taken t_shown t_outcome t_parameters t_length t_now out.2.1 out.2.2.1 out.2.2.2.1 out.2.2.2.2.1 out.2.2.2.2.2)) args s 0 0 A) (F0 m 26 ls [.int z0]) := by
  have hx := hC.1
  have hb := hC.2.1
  have hown := hC.2.2.2.2.1
  have hts := hC.2.2.2.2.2.1
  unfold f_X8_enter_26 at hf
  refine lv_istore (lv' := [(5, .int z0), (0, .ref a_t), (1, .int x1), (2, .int x2), (3, .int x3), (4, .int x4)]) hx hb dX8_enter_26 hl (by decide) rfl (fun ls hl => ?_)
  refine lv_iload hx hb dX8_enter_28 (lv_at hl 0 rfl) ?_
  refine lv_if_eq (tgt := 47) hx hb dX8_enter_30 (by decide) (fun c12 => ?_) (fun c12 => ?_)
  · replace hf := (if_pos c12).symm.trans hf
    refine lv_iconst (v := 0) hx hb dX8_enter_47 (by decide) ?_
    exact b_X8_enter_48 hC hk3 hf hW (lv_sub hl [1, 2, 3, 4, 5, 0] rfl)
  · replace hf := (if_neg c12).symm.trans hf
    refine lv_aload_n hx hb dX8_enter_33 rfl (lv_at hl 1 rfl) ?_
    refine gs_get hC hW in_X8 0 7 rfl rfl (by decide) fl_X8_22 rfl dX8_enter_34 ?_
    refine lv_iload_n hx hb dX8_enter_37 rfl (lv_at hl 3 rfl) ?_
    refine lv_iconst (v := 3) hx hb dX8_enter_38 (by decide) ?_
    refine lv_iadd hx hb dX8_enter_39 ?_
    refine lv_iload hx hb dX8_enter_40 (lv_at hl 5 rfl) ?_
    refine lv_iadd hx hb dX8_enter_42 ?_
    obtain ⟨v13, h13, hf⟩ := g_bnd hf
    refine gs_iald hC hW 3 h13 rfl dX8_enter_43 ?_
    refine lv_goto (tgt := 48) hx hb dX8_enter_44 (by decide) ?_
    exact b_X8_enter_48 hC hk3 hf hW (lv_sub hl [1, 2, 3, 4, 5, 0] rfl)
def f_X8_enter_3 (N : Nat) (x1 : Int32) (x2 : Int32) (x3 : Int32) (t_parameters : Nat → Int32) (t_length : Nat → Int32) (t_now : Nat → Int32) : Nat → Int32 → Int32 → (Nat → Int32) → (Nat → Int32) → (Nat → Int32) → (Nat → Int32) → (Nat → Int32) → Option (Int32 × (Nat → Int32) × (Nat → Int32) × (Nat → Int32) × (Nat → Int32) × (Nat → Int32))
  | 0, _, _, _, _, _, _, _ => none
  | n + 1, x4, t_news, t_met, t_any, t_number, t_outAny, t_out => if 6 ≤ x4 then (f_X8_come N x1 0 t_news t_length t_met t_any t_number t_outAny t_out).bind (fun o15 => some (o15.1, o15.2.1, o15.2.2.1, o15.2.2.2, t_outAny, t_out)) else (g_rd 12 t_parameters x1).bind (fun v16 => if v16 ≤ x4 then f_X8_enter_26 N (f_X8_enter_3 N x1 x2 x3 t_parameters t_length t_now n) x1 x2 x3 t_parameters t_length t_now x4 0 t_news t_met t_any t_number t_outAny t_out else f_X8_enter_26 N (f_X8_enter_3 N x1 x2 x3 t_parameters t_length t_now n) x1 x2 x3 t_parameters t_length t_now x4 1 t_news t_met t_any t_number t_outAny t_out)
set_option maxHeartbeats 4000000 in
set_option maxRecDepth 100000 in
theorem b_X8_enter_3 {p : Program} {l : Launch} {e : Env} {s : State} {m : MethodId} {args : Array Value} {below : List Frame} {meth : Method} {c : Code} {tA : Nat} {dC : Nat → ClassId} {dI : Nat → Nat → Nat} {cI cZ cJ : ClassId} {A : Nat → Prop} {a_t : Nat} {a_t_parameters : Nat} {a_t_length : Nat} {a_t_now : Nat} {a_t_met : Nat} {a_t_any : Nat} {a_t_number : Nat} {a_t_outAny : Nat} {a_t_out : Nat} {a_t_newLength : Nat} {a_t_first : Nat} {a_t_anew : Nat} {a_t_table : Nat} {a_t_inputs : Nat} {a_t_at : Nat} {a_t_in : Nat} {a_t_back : Nat} {a_t_register : Nat} {a_t_output : Nat} {a_t_calls : Nat} {a_t_latest : Nat} {a_t_differ : Nat} {x1 : Int32} {x2 : Int32} {x3 : Int32} {t_parameters : Nat → Int32} {t_length : Nat → Int32} {t_now : Nat → Int32} {t_code : Int32} {t_own : Int32} {t_count : Int32} {t_tableSize : Int32} {t_given : Int32} {t_known : Int32} {t_depth : Int32} {t_steps : Int32} {t_taken : Int32} {t_shown : Int32} {t_outcome : Int32} {N : Nat} (hC : g_C p s m meth c args cX8_enter 7 (none : Option Jvm.ClassFile.FieldType) RX8) :
    ∀ (n : Nat) (x4 : Int32) (t_news : Int32) (t_met : Nat → Int32) (t_any : Nat → Int32) (t_number : Nat → Int32) (t_outAny : Nat → Int32) (t_out : Nat → Int32) (out : Int32 × (Nat → Int32) × (Nat → Int32) × (Nat → Int32) × (Nat → Int32) × (Nat → Int32)), f_X8_enter_3 N x1 x2 x3 t_parameters t_length t_now n x4 t_news t_met t_any t_number t_outAny t_out = some out → ∀ (H : Heap) (locs : List Loc) (ls : Array Slot), g_W tA dC dI cI cZ cJ A s H locs (w_X8_enter cI cZ cJ a_t a_t_parameters a_t_length a_t_now a_t_met a_t_any a_t_number a_t_outAny a_t_out a_t_newLength a_t_first a_t_anew a_t_table a_t_inputs a_t_at a_t_in a_t_back a_t_register a_t_output a_t_calls a_t_latest a_t_differ t_code t_own t_count t_tableSize t_given t_known t_news t_depth t_steps t_taken t_shown t_outcome t_parameters t_length t_now t_met t_any t_number t_outAny t_out) → lv_has ls 7 [(0, .ref a_t), (1, .int x1), (2, .int x2), (3, .int x3), (4, .int x4)] → W p l e r_X8_enter s m args below meth c H locs 0 0 (MQ below (g_Qv dC dI cI cZ cJ A (w_X8_enter cI cZ cJ a_t a_t_parameters a_t_length a_t_now a_t_met a_t_any a_t_number a_t_outAny a_t_out a_t_newLength a_t_first a_t_anew a_t_table a_t_inputs a_t_at a_t_in a_t_back a_t_register a_t_output a_t_calls a_t_latest a_t_differ t_code t_own t_count t_tableSize t_given t_known out.1 t_depth t_steps t_taken t_shown t_outcome t_parameters t_length t_now out.2.1 out.2.2.1 out.2.2.2.1 out.2.2.2.2.1 out.2.2.2.2.2)) args s 0 0 A) (F0 m 3 ls []) := by
  have hx := hC.1
  have hb := hC.2.1
  have hown := hC.2.2.2.2.1
  have hts := hC.2.2.2.2.2.1
  intro n
  induction n with
  | zero =>
    intro x4 t_news t_met t_any t_number t_outAny t_out out hf
    exact g_no hf
  | succ n ih =>
    intro x4 t_news t_met t_any t_number t_outAny t_out out hf H locs ls hW hl
    refine lv_iload hx hb dX8_enter_3 (lv_at hl 4 rfl) ?_
    refine lv_bipush (v := 6) hx hb dX8_enter_5 (by decide) ?_
    refine lv_icmp_ge (tgt := 116) hx hb dX8_enter_7 (by decide) (fun c14 => ?_) (fun c14 => ?_)
    · replace hf := (if_pos c14).symm.trans hf
      refine lv_aload_n hx hb dX8_enter_116 rfl (lv_at hl 0 rfl) ?_
      refine lv_iload_n hx hb dX8_enter_117 rfl (lv_at hl 1 rfl) ?_
      refine lv_iconst (v := 0) hx hb dX8_enter_118 (by decide) ?_
      obtain ⟨o15, h15, hf⟩ := g_bnd hf
      refine gs_callVv (ws' := w_X8_enter cI cZ cJ a_t a_t_parameters a_t_length a_t_now a_t_met a_t_any a_t_number a_t_outAny a_t_out a_t_newLength a_t_first a_t_anew a_t_table a_t_inputs a_t_at a_t_in a_t_back a_t_register a_t_output a_t_calls a_t_latest a_t_differ t_code t_own t_count t_tableSize t_given t_known o15.1 t_depth t_steps t_taken t_shown t_outcome t_parameters t_length t_now o15.2.1 o15.2.2.1 o15.2.2.2 t_outAny t_out) hC hW (k_X8_come l tA dC dI cI cZ cJ a_t a_t_length a_t_met a_t_any a_t_number a_t_outAny a_t_out a_t_parameters a_t_newLength a_t_first a_t_now a_t_anew a_t_table a_t_inputs a_t_at a_t_in a_t_back a_t_register a_t_output a_t_calls a_t_latest a_t_differ N x1 0 t_code t_own t_count t_tableSize t_given t_known t_news t_depth t_steps t_taken t_shown t_outcome t_length t_met t_any t_number t_outAny t_out _ h15) yk_X8_come lk_X8_126 iv_X8_come ⟨rfl, rfl⟩ ⟨Nat.le_of_ble_eq_true rfl, Nat.le_of_ble_eq_true rfl⟩ hl.1 0 rfl rfl [0, 2, 4, 5, 6, 7, 8] [1, 3] [2, 0, 3, 1, 4, 5, 6, 7, 8] rfl rfl rfl rfl (by decide) rfl rfl rfl rfl (Nat.le_of_ble_eq_true rfl) dX8_enter_119 ⟨Nat.zero_le _, Nat.zero_le _⟩ (fun H locs hW => ?_)
      obtain rfl := Option.some.inj hf
      exact gs_rv hC hW rfl dX8_enter_122
    · replace hf := (if_neg c14).symm.trans hf
      refine lv_iload hx hb dX8_enter_10 (lv_at hl 4 rfl) ?_
      refine lv_aload_n hx hb dX8_enter_12 rfl (lv_at hl 0 rfl) ?_
      refine gs_get hC hW in_X8 0 3 rfl rfl (by decide) fl_X8_7 rfl dX8_enter_13 ?_
      refine lv_iload_n hx hb dX8_enter_16 rfl (lv_at hl 1 rfl) ?_
      obtain ⟨v16, h16, hf⟩ := g_bnd hf
      refine gs_iald hC hW 1 h16 rfl dX8_enter_17 ?_
      refine lv_icmp_ge (tgt := 25) hx hb dX8_enter_18 (by decide) (fun c17 => ?_) (fun c17 => ?_)
      · replace hf := (if_pos c17).symm.trans hf
        refine lv_iconst (v := 0) hx hb dX8_enter_25 (by decide) ?_
        exact b_X8_enter_26 hC ih hf hW (lv_sub hl [0, 1, 2, 3, 4] rfl)
      · replace hf := (if_neg c17).symm.trans hf
        refine lv_iconst (v := 1) hx hb dX8_enter_21 (by decide) ?_
        refine lv_goto (tgt := 26) hx hb dX8_enter_22 (by decide) ?_
        exact b_X8_enter_26 hC ih hf hW (lv_sub hl [0, 1, 2, 3, 4] rfl)
def f_X8_enter (N : Nat) (x1 : Int32) (x2 : Int32) (x3 : Int32) (t_news : Int32) (t_parameters : Nat → Int32) (t_length : Nat → Int32) (t_now : Nat → Int32) (t_met : Nat → Int32) (t_any : Nat → Int32) (t_number : Nat → Int32) (t_outAny : Nat → Int32) (t_out : Nat → Int32) : Option (Int32 × (Nat → Int32) × (Nat → Int32) × (Nat → Int32) × (Nat → Int32) × (Nat → Int32)) := f_X8_enter_3 N x1 x2 x3 t_parameters t_length t_now N 0 t_news t_met t_any t_number t_outAny t_out
set_option maxHeartbeats 4000000 in
set_option maxRecDepth 100000 in
theorem k_X8_enter (l : Launch) (tA : Nat) (dC : Nat → ClassId) (dI : Nat → Nat → Nat) (cI cZ cJ : ClassId) (a_t : Nat) (a_t_parameters : Nat) (a_t_length : Nat) (a_t_now : Nat) (a_t_met : Nat) (a_t_any : Nat) (a_t_number : Nat) (a_t_outAny : Nat) (a_t_out : Nat) (a_t_newLength : Nat) (a_t_first : Nat) (a_t_anew : Nat) (a_t_table : Nat) (a_t_inputs : Nat) (a_t_at : Nat) (a_t_in : Nat) (a_t_back : Nat) (a_t_register : Nat) (a_t_output : Nat) (a_t_calls : Nat) (a_t_latest : Nat) (a_t_differ : Nat) (N : Nat) (x1 : Int32) (x2 : Int32) (x3 : Int32) (t_code : Int32) (t_own : Int32) (t_count : Int32) (t_tableSize : Int32) (t_given : Int32) (t_known : Int32) (t_news : Int32) (t_depth : Int32) (t_steps : Int32) (t_taken : Int32) (t_shown : Int32) (t_outcome : Int32) (t_parameters : Nat → Int32) (t_length : Nat → Int32) (t_now : Nat → Int32) (t_met : Nat → Int32) (t_any : Nat → Int32) (t_number : Nat → Int32) (t_outAny : Nat → Int32) (t_out : Nat → Int32) (out : Int32 × (Nat → Int32) × (Nat → Int32) × (Nat → Int32) × (Nat → Int32) × (Nat → Int32)) (hf : f_X8_enter N x1 x2 x3 t_news t_parameters t_length t_now t_met t_any t_number t_outAny t_out = some out) : g_Mv l yX8_enter cX8_enter 7 (none : Option Jvm.ClassFile.FieldType) r_X8_enter tA dC dI cI cZ cJ [.ref a_t, .int x1, .int x2, .int x3] (w_X8_enter cI cZ cJ a_t a_t_parameters a_t_length a_t_now a_t_met a_t_any a_t_number a_t_outAny a_t_out a_t_newLength a_t_first a_t_anew a_t_table a_t_inputs a_t_at a_t_in a_t_back a_t_register a_t_output a_t_calls a_t_latest a_t_differ t_code t_own t_count t_tableSize t_given t_known t_news t_depth t_steps t_taken t_shown t_outcome t_parameters t_length t_now t_met t_any t_number t_outAny t_out) (w_X8_enter cI cZ cJ a_t a_t_parameters a_t_length a_t_now a_t_met a_t_any a_t_number a_t_outAny a_t_out a_t_newLength a_t_first a_t_anew a_t_table a_t_inputs a_t_at a_t_in a_t_back a_t_register a_t_output a_t_calls a_t_latest a_t_differ t_code t_own t_count t_tableSize t_given t_known out.1 t_depth t_steps t_taken t_shown t_outcome t_parameters t_length t_now out.2.1 out.2.2.1 out.2.2.2.1 out.2.2.2.2.1 out.2.2.2.2.2) := by
  unfold f_X8_enter at hf
  refine ge_v (by decide) (Nat.le_of_ble_eq_true rfl) (fun p e s m below meth c A H locs ls hC hW hl => ?_)
  have hC : g_C p s m meth c _ cX8_enter 7 (none : Option Jvm.ClassFile.FieldType) RX8 := hC
  have hx := hC.1
  have hb := hC.2.1
  have hown := hC.2.2.2.2.1
  have hts := hC.2.2.2.2.2.1
  have hl : lv_has ls 7 [(0, .ref a_t), (1, .int x1), (2, .int x2), (3, .int x3)] := hl
  refine lv_iconst (v := 0) hx hb dX8_enter_0 (by decide) ?_
  refine lv_istore (lv' := [(4, .int 0), (0, .ref a_t), (1, .int x1), (2, .int x2), (3, .int x3)]) hx hb dX8_enter_1 hl (by decide) rfl (fun ls hl => ?_)
  exact b_X8_enter_3 hC N _ _ _ _ _ _ _ _ hf _ _ _ hW (lv_sub hl [1, 2, 3, 4, 0] rfl)

abbrev w_X8_callAll (cI cZ cJ : ClassId) (a_t : Nat) (a_t_parameters : Nat) (a_t_length : Nat) (a_t_now : Nat) (a_t_table : Nat) (a_t_met : Nat) (a_t_any : Nat) (a_t_number : Nat) (a_t_outAny : Nat) (a_t_out : Nat) (a_t_newLength : Nat) (a_t_first : Nat) (a_t_anew : Nat) (a_t_inputs : Nat) (a_t_at : Nat) (a_t_in : Nat) (a_t_back : Nat) (a_t_register : Nat) (a_t_output : Nat) (a_t_calls : Nat) (a_t_latest : Nat) (a_t_differ : Nat) (t_code : Int32) (t_own : Int32) (t_count : Int32) (t_tableSize : Int32) (t_given : Int32) (t_known : Int32) (t_news : Int32) (t_depth : Int32) (t_steps : Int32) (t_taken : Int32) (t_shown : Int32) (t_outcome : Int32) (t_parameters : Nat → Int32) (t_length : Nat → Int32) (t_now : Nat → Int32) (t_table : Nat → Int32) (t_met : Nat → Int32) (t_any : Nat → Int32) (t_number : Nat → Int32) (t_outAny : Nat → Int32) (t_out : Nat → Int32) : va_W := [(a_t, .inr (8, [.int t_code, .int t_own, .int t_count, .ref a_t_parameters, .ref a_t_length, .ref a_t_newLength, .ref a_t_first, .ref a_t_now, .ref a_t_anew, .int t_tableSize, .ref a_t_table, .int t_given, .ref a_t_inputs, .int t_known, .ref a_t_met, .ref a_t_any, .ref a_t_number, .int t_news, .ref a_t_outAny, .ref a_t_out, .int t_depth, .int t_steps, .int t_taken, .int t_shown, .ref a_t_at, .ref a_t_in, .ref a_t_back, .ref a_t_register, .ref a_t_output, .ref a_t_calls, .ref a_t_latest, .ref a_t_differ, .int t_outcome])), (a_t_parameters, .inl (cI, 12, .inl t_parameters)), (a_t_length, .inl (cI, 12, .inl t_length)), (a_t_now, .inl (cI, 1152, .inl t_now)), (a_t_table, .inl (cI, 4, .inl t_table)), (a_t_met, .inl (cZ, 204, .inl t_met)), (a_t_any, .inl (cZ, 1224, .inl t_any)), (a_t_number, .inl (cI, 1224, .inl t_number)), (a_t_outAny, .inl (cZ, 6, .inl t_outAny)), (a_t_out, .inl (cI, 6, .inl t_out))]
abbrev r_X8_callAll : Room := { frames := 3, cells := 0, slots := 0, locals := 68 }
def f_X8_callAll_79 (N : Nat) (x1 : Int32) (x2 : Int32) (t_tableSize : Int32) (t_parameters : Nat → Int32) (t_length : Nat → Int32) (t_now : Nat → Int32) (t_table : Nat → Int32) : Nat → Int32 → Int32 → (Nat → Int32) → (Nat → Int32) → (Nat → Int32) → (Nat → Int32) → (Nat → Int32) → Option (Int32 × (Nat → Int32) × (Nat → Int32) × (Nat → Int32) × (Nat → Int32) × (Nat → Int32))
  | 0, _, _, _, _, _, _, _ => none
  | n + 1, x3, t_news, t_met, t_any, t_number, t_outAny, t_out => if t_tableSize ≤ x3 then some (t_news, t_met, t_any, t_number, t_outAny, t_out) else (g_rd 4 t_table x3).bind (fun v2 => (f_X8_enter N v2 x1 x2 t_news t_parameters t_length t_now t_met t_any t_number t_outAny t_out).bind (fun o3 => f_X8_callAll_79 N x1 x2 t_tableSize t_parameters t_length t_now t_table n (x3 + 1) o3.1 o3.2.1 o3.2.2.1 o3.2.2.2.1 o3.2.2.2.2.1 o3.2.2.2.2.2))
set_option maxHeartbeats 4000000 in
set_option maxRecDepth 100000 in
theorem b_X8_callAll_79 {p : Program} {l : Launch} {e : Env} {s : State} {m : MethodId} {args : Array Value} {below : List Frame} {meth : Method} {c : Code} {tA : Nat} {dC : Nat → ClassId} {dI : Nat → Nat → Nat} {cI cZ cJ : ClassId} {A : Nat → Prop} {a_t : Nat} {a_t_parameters : Nat} {a_t_length : Nat} {a_t_now : Nat} {a_t_table : Nat} {a_t_met : Nat} {a_t_any : Nat} {a_t_number : Nat} {a_t_outAny : Nat} {a_t_out : Nat} {a_t_newLength : Nat} {a_t_first : Nat} {a_t_anew : Nat} {a_t_inputs : Nat} {a_t_at : Nat} {a_t_in : Nat} {a_t_back : Nat} {a_t_register : Nat} {a_t_output : Nat} {a_t_calls : Nat} {a_t_latest : Nat} {a_t_differ : Nat} {x1 : Int32} {x2 : Int32} {t_tableSize : Int32} {t_parameters : Nat → Int32} {t_length : Nat → Int32} {t_now : Nat → Int32} {t_table : Nat → Int32} {t_code : Int32} {t_own : Int32} {t_count : Int32} {t_given : Int32} {t_known : Int32} {t_depth : Int32} {t_steps : Int32} {t_taken : Int32} {t_shown : Int32} {t_outcome : Int32} {N : Nat} (hC : g_C p s m meth c args cX8_callAll 4 (none : Option Jvm.ClassFile.FieldType) RX8) :
    ∀ (n : Nat) (x3 : Int32) (t_news : Int32) (t_met : Nat → Int32) (t_any : Nat → Int32) (t_number : Nat → Int32) (t_outAny : Nat → Int32) (t_out : Nat → Int32) (out : Int32 × (Nat → Int32) × (Nat → Int32) × (Nat → Int32) × (Nat → Int32) × (Nat → Int32)), f_X8_callAll_79 N x1 x2 t_tableSize t_parameters t_length t_now t_table n x3 t_news t_met t_any t_number t_outAny t_out = some out → ∀ (H : Heap) (locs : List Loc) (ls : Array Slot), g_W tA dC dI cI cZ cJ A s H locs (w_X8_callAll cI cZ cJ a_t a_t_parameters a_t_length a_t_now a_t_table a_t_met a_t_any a_t_number a_t_outAny a_t_out a_t_newLength a_t_first a_t_anew a_t_inputs a_t_at a_t_in a_t_back a_t_register a_t_output a_t_calls a_t_latest a_t_differ t_code t_own t_count t_tableSize t_given t_known t_news t_depth t_steps t_taken t_shown t_outcome t_parameters t_length t_now t_table t_met t_any t_number t_outAny t_out) → lv_has ls 4 [(0, .ref a_t), (1, .int x1), (2, .int x2), (3, .int x3)] → W p l e r_X8_callAll s m args below meth c H locs 0 0 (MQ below (g_Qv dC dI cI cZ cJ A (w_X8_callAll cI cZ cJ a_t a_t_parameters a_t_length a_t_now a_t_table a_t_met a_t_any a_t_number a_t_outAny a_t_out a_t_newLength a_t_first a_t_anew a_t_inputs a_t_at a_t_in a_t_back a_t_register a_t_output a_t_calls a_t_latest a_t_differ t_code t_own t_count t_tableSize t_given t_known out.1 t_depth t_steps t_taken t_shown t_outcome t_parameters t_length t_now t_table out.2.1 out.2.2.1 out.2.2.2.1 out.2.2.2.2.1 out.2.2.2.2.2)) args s 0 0 A) (F0 m 79 ls []) := by
  have hx := hC.1
  have hb := hC.2.1
  have hown := hC.2.2.2.2.1
  have hts := hC.2.2.2.2.2.1
  intro n
  induction n with
  | zero =>
    intro x3 t_news t_met t_any t_number t_outAny t_out out hf
    exact g_no hf
  | succ n ih =>
    intro x3 t_news t_met t_any t_number t_outAny t_out out hf H locs ls hW hl
    refine lv_iload_n hx hb dX8_callAll_79 rfl (lv_at hl 3 rfl) ?_
    refine lv_aload_n hx hb dX8_callAll_80 rfl (lv_at hl 0 rfl) ?_
    refine gs_get hC hW in_X8 0 9 rfl rfl (by decide) fl_X8_106 rfl dX8_callAll_81 ?_
    refine lv_icmp_ge (tgt := 105) hx hb dX8_callAll_84 (by decide) (fun c1 => ?_) (fun c1 => ?_)
    · replace hf := (if_pos c1).symm.trans hf
      obtain rfl := Option.some.inj hf
      exact gs_rv hC hW rfl dX8_callAll_105
    · replace hf := (if_neg c1).symm.trans hf
      refine lv_aload_n hx hb dX8_callAll_87 rfl (lv_at hl 0 rfl) ?_
      refine lv_aload_n hx hb dX8_callAll_88 rfl (lv_at hl 0 rfl) ?_
      refine gs_get hC hW in_X8 0 10 rfl rfl (by decide) fl_X8_28 rfl dX8_callAll_89 ?_
      refine lv_iload_n hx hb dX8_callAll_92 rfl (lv_at hl 3 rfl) ?_
      obtain ⟨v2, h2, hf⟩ := g_bnd hf
      refine gs_iald hC hW 4 h2 rfl dX8_callAll_93 ?_
      refine lv_iload_n hx hb dX8_callAll_94 rfl (lv_at hl 1 rfl) ?_
      refine lv_iload_n hx hb dX8_callAll_95 rfl (lv_at hl 2 rfl) ?_
      obtain ⟨o3, h3, hf⟩ := g_bnd hf
      refine gs_callVv (ws' := w_X8_callAll cI cZ cJ a_t a_t_parameters a_t_length a_t_now a_t_table a_t_met a_t_any a_t_number a_t_outAny a_t_out a_t_newLength a_t_first a_t_anew a_t_inputs a_t_at a_t_in a_t_back a_t_register a_t_output a_t_calls a_t_latest a_t_differ t_code t_own t_count t_tableSize t_given t_known o3.1 t_depth t_steps t_taken t_shown t_outcome t_parameters t_length t_now t_table o3.2.1 o3.2.2.1 o3.2.2.2.1 o3.2.2.2.2.1 o3.2.2.2.2.2) hC hW (k_X8_enter l tA dC dI cI cZ cJ a_t a_t_parameters a_t_length a_t_now a_t_met a_t_any a_t_number a_t_outAny a_t_out a_t_newLength a_t_first a_t_anew a_t_table a_t_inputs a_t_at a_t_in a_t_back a_t_register a_t_output a_t_calls a_t_latest a_t_differ N v2 x1 x2 t_code t_own t_count t_tableSize t_given t_known t_news t_depth t_steps t_taken t_shown t_outcome t_parameters t_length t_now t_met t_any t_number t_outAny t_out _ h3) yk_X8_enter lk_X8_130 iv_X8_enter ⟨rfl, rfl⟩ ⟨Nat.le_of_ble_eq_true rfl, Nat.le_of_ble_eq_true rfl⟩ hl.1 0 rfl rfl [0, 1, 2, 3, 5, 6, 7, 8, 9] [4] [1, 2, 3, 4, 0, 5, 6, 7, 8, 9] rfl rfl rfl rfl (by decide) rfl rfl rfl rfl (Nat.le_of_ble_eq_true rfl) dX8_callAll_96 ⟨Nat.zero_le _, Nat.zero_le _⟩ (fun H locs hW => ?_)
      refine lv_iinc (v := x3 + 1) (lv' := [(3, .int (x3 + 1)), (0, .ref a_t), (1, .int x1), (2, .int x2)]) hx hb dX8_callAll_99 hl (k := 3) rfl rfl (by decide) rfl (fun ls hl => ?_)
      refine lv_goto (tgt := 79) hx hb dX8_callAll_102 (by decide) ?_
      exact ih _ _ _ _ _ _ _ _ hf _ _ _ hW (lv_sub hl [1, 2, 3, 0] rfl)
def f_X8_callAll (N : Nat) (x1 : Int32) (x2 : Int32) (t_tableSize : Int32) (t_news : Int32) (t_parameters : Nat → Int32) (t_length : Nat → Int32) (t_now : Nat → Int32) (t_table : Nat → Int32) (t_met : Nat → Int32) (t_any : Nat → Int32) (t_number : Nat → Int32) (t_outAny : Nat → Int32) (t_out : Nat → Int32) : Option (Int32 × (Nat → Int32) × (Nat → Int32) × (Nat → Int32) × (Nat → Int32) × (Nat → Int32)) := (g_rd 1152 t_now x1).bind (fun v4 => if v4 = 10 then (g_rd 1152 t_now (x1 + 2)).bind (fun v14 => (f_X8_enter N v14 x1 x2 t_news t_parameters t_length t_now t_met t_any t_number t_outAny t_out).bind (fun o15 => some (o15.1, o15.2.1, o15.2.2.1, o15.2.2.2.1, o15.2.2.2.2.1, o15.2.2.2.2.2))) else if t_tableSize ≤ 0 then f_X8_callAll_79 N x1 x2 t_tableSize t_parameters t_length t_now t_table N 0 t_news t_met t_any t_number t_outAny t_out else (g_rd 1152 t_now (x1 + 2)).bind (fun v7 => (f_X8_has x2 v7 t_any).bind (fun o8 => if o8 = 0 then f_X8_callAll_79 N x1 x2 t_tableSize t_parameters t_length t_now t_table N 0 t_news t_met t_any t_number t_outAny t_out else (g_rd 1152 t_now (x1 + 2)).bind (fun v10 => (f_X8_valueAt x2 v10 t_number).bind (fun o11 => (f_X8_entry o11 t_tableSize t_table).bind (fun o12 => (f_X8_enter N o12 x1 x2 t_news t_parameters t_length t_now t_met t_any t_number t_outAny t_out).bind (fun o13 => some (o13.1, o13.2.1, o13.2.2.1, o13.2.2.2.1, o13.2.2.2.2.1, o13.2.2.2.2.2))))))))
set_option maxHeartbeats 4000000 in
set_option maxRecDepth 100000 in
theorem k_X8_callAll (l : Launch) (tA : Nat) (dC : Nat → ClassId) (dI : Nat → Nat → Nat) (cI cZ cJ : ClassId) (a_t : Nat) (a_t_parameters : Nat) (a_t_length : Nat) (a_t_now : Nat) (a_t_table : Nat) (a_t_met : Nat) (a_t_any : Nat) (a_t_number : Nat) (a_t_outAny : Nat) (a_t_out : Nat) (a_t_newLength : Nat) (a_t_first : Nat) (a_t_anew : Nat) (a_t_inputs : Nat) (a_t_at : Nat) (a_t_in : Nat) (a_t_back : Nat) (a_t_register : Nat) (a_t_output : Nat) (a_t_calls : Nat) (a_t_latest : Nat) (a_t_differ : Nat) (N : Nat) (x1 : Int32) (x2 : Int32) (t_code : Int32) (t_own : Int32) (t_count : Int32) (t_tableSize : Int32) (t_given : Int32) (t_known : Int32) (t_news : Int32) (t_depth : Int32) (t_steps : Int32) (t_taken : Int32) (t_shown : Int32) (t_outcome : Int32) (t_parameters : Nat → Int32) (t_length : Nat → Int32) (t_now : Nat → Int32) (t_table : Nat → Int32) (t_met : Nat → Int32) (t_any : Nat → Int32) (t_number : Nat → Int32) (t_outAny : Nat → Int32) (t_out : Nat → Int32) (out : Int32 × (Nat → Int32) × (Nat → Int32) × (Nat → Int32) × (Nat → Int32) × (Nat → Int32)) (hf : f_X8_callAll N x1 x2 t_tableSize t_news t_parameters t_length t_now t_table t_met t_any t_number t_outAny t_out = some out) : g_Mv l yX8_callAll cX8_callAll 4 (none : Option Jvm.ClassFile.FieldType) r_X8_callAll tA dC dI cI cZ cJ [.ref a_t, .int x1, .int x2] (w_X8_callAll cI cZ cJ a_t a_t_parameters a_t_length a_t_now a_t_table a_t_met a_t_any a_t_number a_t_outAny a_t_out a_t_newLength a_t_first a_t_anew a_t_inputs a_t_at a_t_in a_t_back a_t_register a_t_output a_t_calls a_t_latest a_t_differ t_code t_own t_count t_tableSize t_given t_known t_news t_depth t_steps t_taken t_shown t_outcome t_parameters t_length t_now t_table t_met t_any t_number t_outAny t_out) (w_X8_callAll cI cZ cJ a_t a_t_parameters a_t_length a_t_now a_t_table a_t_met a_t_any a_t_number a_t_outAny a_t_out a_t_newLength a_t_first a_t_anew a_t_inputs a_t_at a_t_in a_t_back a_t_register a_t_output a_t_calls a_t_latest a_t_differ t_code t_own t_count t_tableSize t_given t_known out.1 t_depth t_steps t_taken t_shown t_outcome t_parameters t_length t_now t_table out.2.1 out.2.2.1 out.2.2.2.1 out.2.2.2.2.1 out.2.2.2.2.2) := by
  unfold f_X8_callAll at hf
  refine ge_v (by decide) (Nat.le_of_ble_eq_true rfl) (fun p e s m below meth c A H locs ls hC hW hl => ?_)
  have hC : g_C p s m meth c _ cX8_callAll 4 (none : Option Jvm.ClassFile.FieldType) RX8 := hC
  have hx := hC.1
  have hb := hC.2.1
  have hown := hC.2.2.2.2.1
  have hts := hC.2.2.2.2.2.1
  have hl : lv_has ls 4 [(0, .ref a_t), (1, .int x1), (2, .int x2)] := hl
  refine lv_aload_n hx hb dX8_callAll_0 rfl (lv_at hl 0 rfl) ?_
  refine gs_get hC hW in_X8 0 7 rfl rfl (by decide) fl_X8_22 rfl dX8_callAll_1 ?_
  refine lv_iload_n hx hb dX8_callAll_4 rfl (lv_at hl 1 rfl) ?_
  obtain ⟨v4, h4, hf⟩ := g_bnd hf
  refine gs_iald hC hW 3 h4 rfl dX8_callAll_5 ?_
  refine lv_bipush (v := 10) hx hb dX8_callAll_6 (by decide) ?_
  refine lv_icmp_ne (tgt := 28) hx hb dX8_callAll_8 (by decide) (fun c5 => ?_) (fun c5 => ?_)
  · replace hf := (if_neg c5).symm.trans hf
    refine lv_aload_n hx hb dX8_callAll_28 rfl (lv_at hl 0 rfl) ?_
    refine gs_get hC hW in_X8 0 9 rfl rfl (by decide) fl_X8_106 rfl dX8_callAll_29 ?_
    refine lv_if_le (tgt := 77) hx hb dX8_callAll_32 (by decide) (fun c6 => ?_) (fun c6 => ?_)
    · replace hf := (if_pos c6).symm.trans hf
      refine lv_iconst (v := 0) hx hb dX8_callAll_77 (by decide) ?_
      refine lv_istore_n (lv' := [(3, .int 0), (0, .ref a_t), (1, .int x1), (2, .int x2)]) hx hb dX8_callAll_78 rfl hl (by decide) rfl (fun ls hl => ?_)
      exact b_X8_callAll_79 hC N _ _ _ _ _ _ _ _ hf _ _ _ hW (lv_sub hl [1, 2, 3, 0] rfl)
    · replace hf := (if_neg c6).symm.trans hf
      refine lv_aload_n hx hb dX8_callAll_35 rfl (lv_at hl 0 rfl) ?_
      refine lv_iload_n hx hb dX8_callAll_36 rfl (lv_at hl 2 rfl) ?_
      refine lv_aload_n hx hb dX8_callAll_37 rfl (lv_at hl 0 rfl) ?_
      refine gs_get hC hW in_X8 0 7 rfl rfl (by decide) fl_X8_22 rfl dX8_callAll_38 ?_
      refine lv_iload_n hx hb dX8_callAll_41 rfl (lv_at hl 1 rfl) ?_
      refine lv_iconst (v := 2) hx hb dX8_callAll_42 (by decide) ?_
      refine lv_iadd hx hb dX8_callAll_43 ?_
      obtain ⟨v7, h7, hf⟩ := g_bnd hf
      refine gs_iald hC hW 3 h7 rfl dX8_callAll_44 ?_
      obtain ⟨o8, h8, hf⟩ := g_bnd hf
      refine gs_callVi (ws' := w_X8_callAll cI cZ cJ a_t a_t_parameters a_t_length a_t_now a_t_table a_t_met a_t_any a_t_number a_t_outAny a_t_out a_t_newLength a_t_first a_t_anew a_t_inputs a_t_at a_t_in a_t_back a_t_register a_t_output a_t_calls a_t_latest a_t_differ t_code t_own t_count t_tableSize t_given t_known t_news t_depth t_steps t_taken t_shown t_outcome t_parameters t_length t_now t_table t_met t_any t_number t_outAny t_out) hC hW (k_X8_has l tA dC dI cI cZ cJ a_t a_t_any a_t_parameters a_t_length a_t_newLength a_t_first a_t_now a_t_anew a_t_table a_t_inputs a_t_met a_t_number a_t_outAny a_t_out a_t_at a_t_in a_t_back a_t_register a_t_output a_t_calls a_t_latest a_t_differ x2 v7 t_code t_own t_count t_tableSize t_given t_known t_news t_depth t_steps t_taken t_shown t_outcome t_any _ h8) yk_X8_has lk_X8_118 iv_X8_has ⟨rfl, rfl⟩ ⟨Nat.le_of_ble_eq_true rfl, Nat.le_of_ble_eq_true rfl⟩ hl.1 0 rfl rfl [0, 6] [1, 2, 3, 4, 5, 7, 8, 9] [8, 0, 1, 2, 3, 4, 9, 5, 6, 7] rfl rfl rfl rfl (by decide) rfl rfl rfl rfl (Nat.le_of_ble_eq_true rfl) dX8_callAll_45 ⟨Nat.zero_le _, Nat.zero_le _⟩ (fun H locs hW => ?_)
      refine lv_if_eq (tgt := 77) hx hb dX8_callAll_48 (by decide) (fun c9 => ?_) (fun c9 => ?_)
      · replace hf := (if_pos c9).symm.trans hf
        refine lv_iconst (v := 0) hx hb dX8_callAll_77 (by decide) ?_
        refine lv_istore_n (lv' := [(3, .int 0), (0, .ref a_t), (1, .int x1), (2, .int x2)]) hx hb dX8_callAll_78 rfl hl (by decide) rfl (fun ls hl => ?_)
        exact b_X8_callAll_79 hC N _ _ _ _ _ _ _ _ hf _ _ _ hW (lv_sub hl [1, 2, 3, 0] rfl)
      · replace hf := (if_neg c9).symm.trans hf
        refine lv_aload_n hx hb dX8_callAll_51 rfl (lv_at hl 0 rfl) ?_
        refine lv_aload_n hx hb dX8_callAll_52 rfl (lv_at hl 0 rfl) ?_
        refine lv_aload_n hx hb dX8_callAll_53 rfl (lv_at hl 0 rfl) ?_
        refine lv_iload_n hx hb dX8_callAll_54 rfl (lv_at hl 2 rfl) ?_
        refine lv_aload_n hx hb dX8_callAll_55 rfl (lv_at hl 0 rfl) ?_
        refine gs_get hC hW in_X8 0 7 rfl rfl (by decide) fl_X8_22 rfl dX8_callAll_56 ?_
        refine lv_iload_n hx hb dX8_callAll_59 rfl (lv_at hl 1 rfl) ?_
        refine lv_iconst (v := 2) hx hb dX8_callAll_60 (by decide) ?_
        refine lv_iadd hx hb dX8_callAll_61 ?_
        obtain ⟨v10, h10, hf⟩ := g_bnd hf
        refine gs_iald hC hW 3 h10 rfl dX8_callAll_62 ?_
        obtain ⟨o11, h11, hf⟩ := g_bnd hf
        refine gs_callVi (ws' := w_X8_callAll cI cZ cJ a_t a_t_parameters a_t_length a_t_now a_t_table a_t_met a_t_any a_t_number a_t_outAny a_t_out a_t_newLength a_t_first a_t_anew a_t_inputs a_t_at a_t_in a_t_back a_t_register a_t_output a_t_calls a_t_latest a_t_differ t_code t_own t_count t_tableSize t_given t_known t_news t_depth t_steps t_taken t_shown t_outcome t_parameters t_length t_now t_table t_met t_any t_number t_outAny t_out) hC hW (k_X8_valueAt l tA dC dI cI cZ cJ a_t a_t_number a_t_parameters a_t_length a_t_newLength a_t_first a_t_now a_t_anew a_t_table a_t_inputs a_t_met a_t_any a_t_outAny a_t_out a_t_at a_t_in a_t_back a_t_register a_t_output a_t_calls a_t_latest a_t_differ x2 v10 t_code t_own t_count t_tableSize t_given t_known t_news t_depth t_steps t_taken t_shown t_outcome t_number _ h11) yk_X8_valueAt lk_X8_122 iv_X8_valueAt ⟨rfl, rfl⟩ ⟨Nat.le_of_ble_eq_true rfl, Nat.le_of_ble_eq_true rfl⟩ hl.1 0 rfl rfl [0, 7] [1, 2, 3, 4, 5, 6, 8, 9] [8, 0, 1, 2, 3, 4, 5, 9, 6, 7] rfl rfl rfl rfl (by decide) rfl rfl rfl rfl (Nat.le_of_ble_eq_true rfl) dX8_callAll_63 ⟨Nat.zero_le _, Nat.zero_le _⟩ (fun H locs hW => ?_)
        obtain ⟨o12, h12, hf⟩ := g_bnd hf
        refine gs_callVi (ws' := w_X8_callAll cI cZ cJ a_t a_t_parameters a_t_length a_t_now a_t_table a_t_met a_t_any a_t_number a_t_outAny a_t_out a_t_newLength a_t_first a_t_anew a_t_inputs a_t_at a_t_in a_t_back a_t_register a_t_output a_t_calls a_t_latest a_t_differ t_code t_own t_count t_tableSize t_given t_known t_news t_depth t_steps t_taken t_shown t_outcome t_parameters t_length t_now t_table t_met t_any t_number t_outAny t_out) hC hW (k_X8_entry l tA dC dI cI cZ cJ a_t a_t_table a_t_parameters a_t_length a_t_newLength a_t_first a_t_now a_t_anew a_t_inputs a_t_met a_t_any a_t_number a_t_outAny a_t_out a_t_at a_t_in a_t_back a_t_register a_t_output a_t_calls a_t_latest a_t_differ o11 t_code t_own t_count t_tableSize t_given t_known t_news t_depth t_steps t_taken t_shown t_outcome t_table _ h12) yk_X8_entry lk_X8_134 iv_X8_entry ⟨rfl, rfl⟩ ⟨Nat.le_of_ble_eq_true rfl, Nat.le_of_ble_eq_true rfl⟩ hl.1 0 rfl rfl [0, 4] [1, 2, 3, 5, 6, 7, 8, 9] [8, 0, 1, 2, 9, 3, 4, 5, 6, 7] rfl rfl rfl rfl (by decide) rfl rfl rfl rfl (Nat.le_of_ble_eq_true rfl) dX8_callAll_66 ⟨Nat.zero_le _, Nat.zero_le _⟩ (fun H locs hW => ?_)
        refine lv_iload_n hx hb dX8_callAll_69 rfl (lv_at hl 1 rfl) ?_
        refine lv_iload_n hx hb dX8_callAll_70 rfl (lv_at hl 2 rfl) ?_
        obtain ⟨o13, h13, hf⟩ := g_bnd hf
        refine gs_callVv (ws' := w_X8_callAll cI cZ cJ a_t a_t_parameters a_t_length a_t_now a_t_table a_t_met a_t_any a_t_number a_t_outAny a_t_out a_t_newLength a_t_first a_t_anew a_t_inputs a_t_at a_t_in a_t_back a_t_register a_t_output a_t_calls a_t_latest a_t_differ t_code t_own t_count t_tableSize t_given t_known o13.1 t_depth t_steps t_taken t_shown t_outcome t_parameters t_length t_now t_table o13.2.1 o13.2.2.1 o13.2.2.2.1 o13.2.2.2.2.1 o13.2.2.2.2.2) hC hW (k_X8_enter l tA dC dI cI cZ cJ a_t a_t_parameters a_t_length a_t_now a_t_met a_t_any a_t_number a_t_outAny a_t_out a_t_newLength a_t_first a_t_anew a_t_table a_t_inputs a_t_at a_t_in a_t_back a_t_register a_t_output a_t_calls a_t_latest a_t_differ N o12 x1 x2 t_code t_own t_count t_tableSize t_given t_known t_news t_depth t_steps t_taken t_shown t_outcome t_parameters t_length t_now t_met t_any t_number t_outAny t_out _ h13) yk_X8_enter lk_X8_130 iv_X8_enter ⟨rfl, rfl⟩ ⟨Nat.le_of_ble_eq_true rfl, Nat.le_of_ble_eq_true rfl⟩ hl.1 0 rfl rfl [0, 1, 2, 3, 5, 6, 7, 8, 9] [4] [1, 2, 3, 4, 0, 5, 6, 7, 8, 9] rfl rfl rfl rfl (by decide) rfl rfl rfl rfl (Nat.le_of_ble_eq_true rfl) dX8_callAll_71 ⟨Nat.zero_le _, Nat.zero_le _⟩ (fun H locs hW => ?_)
        refine lv_goto (tgt := 105) hx hb dX8_callAll_74 (by decide) ?_
        obtain rfl := Option.some.inj hf
        exact gs_rv hC hW rfl dX8_callAll_105
  · replace hf := (if_pos c5).symm.trans hf
    refine lv_aload_n hx hb dX8_callAll_11 rfl (lv_at hl 0 rfl) ?_
    refine lv_aload_n hx hb dX8_callAll_12 rfl (lv_at hl 0 rfl) ?_
    refine gs_get hC hW in_X8 0 7 rfl rfl (by decide) fl_X8_22 rfl dX8_callAll_13 ?_
    refine lv_iload_n hx hb dX8_callAll_16 rfl (lv_at hl 1 rfl) ?_
    refine lv_iconst (v := 2) hx hb dX8_callAll_17 (by decide) ?_
    refine lv_iadd hx hb dX8_callAll_18 ?_
    obtain ⟨v14, h14, hf⟩ := g_bnd hf
    refine gs_iald hC hW 3 h14 rfl dX8_callAll_19 ?_
    refine lv_iload_n hx hb dX8_callAll_20 rfl (lv_at hl 1 rfl) ?_
    refine lv_iload_n hx hb dX8_callAll_21 rfl (lv_at hl 2 rfl) ?_
    obtain ⟨o15, h15, hf⟩ := g_bnd hf
    refine gs_callVv (ws' := w_X8_callAll cI cZ cJ a_t a_t_parameters a_t_length a_t_now a_t_table a_t_met a_t_any a_t_number a_t_outAny a_t_out a_t_newLength a_t_first a_t_anew a_t_inputs a_t_at a_t_in a_t_back a_t_register a_t_output a_t_calls a_t_latest a_t_differ t_code t_own t_count t_tableSize t_given t_known o15.1 t_depth t_steps t_taken t_shown t_outcome t_parameters t_length t_now t_table o15.2.1 o15.2.2.1 o15.2.2.2.1 o15.2.2.2.2.1 o15.2.2.2.2.2) hC hW (k_X8_enter l tA dC dI cI cZ cJ a_t a_t_parameters a_t_length a_t_now a_t_met a_t_any a_t_number a_t_outAny a_t_out a_t_newLength a_t_first a_t_anew a_t_table a_t_inputs a_t_at a_t_in a_t_back a_t_register a_t_output a_t_calls a_t_latest a_t_differ N v14 x1 x2 t_code t_own t_count t_tableSize t_given t_known t_news t_depth t_steps t_taken t_shown t_outcome t_parameters t_length t_now t_met t_any t_number t_outAny t_out _ h15) yk_X8_enter lk_X8_130 iv_X8_enter ⟨rfl, rfl⟩ ⟨Nat.le_of_ble_eq_true rfl, Nat.le_of_ble_eq_true rfl⟩ hl.1 0 rfl rfl [0, 1, 2, 3, 5, 6, 7, 8, 9] [4] [1, 2, 3, 4, 0, 5, 6, 7, 8, 9] rfl rfl rfl rfl (by decide) rfl rfl rfl rfl (Nat.le_of_ble_eq_true rfl) dX8_callAll_22 ⟨Nat.zero_le _, Nat.zero_le _⟩ (fun H locs hW => ?_)
    refine lv_goto (tgt := 105) hx hb dX8_callAll_25 (by decide) ?_
    obtain rfl := Option.some.inj hf
    exact gs_rv hC hW rfl dX8_callAll_105
