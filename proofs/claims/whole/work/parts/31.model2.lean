theorem co_X8_141 : Cond.constant RX8 141 (-268435456) ∈ gw := gw_i 968 (by decide +kernel) rfl
theorem co_X8_142 : Cond.constant RX8 142 268435455 ∈ gw := gw_i 969 (by decide +kernel) rfl
theorem lk_X8_137 : Cond.methodLink RX8 137 yX8_reckon ∈ gw := gw_i 965 (by decide +kernel) rfl
theorem yk_X8_reckon : g_Y yX8_reckon cX8_reckon 3 (some .int) 3 := ⟨gw_i 967 (by decide +kernel) rfl, gw_i 64 (by decide +kernel) rfl, by decide +kernel, by decide +kernel, by decide +kernel⟩
theorem is_X8_reckon : Cond.static yX8_reckon ∈ gw := gw_i 966 (by decide +kernel) rfl
theorem yk_X8_change : g_Y yX8_change cX8_change 7 (none : Option Jvm.ClassFile.FieldType) 2 := ⟨gw_i 964 (by decide +kernel) rfl, gw_i 64 (by decide +kernel) rfl, by decide +kernel, by decide +kernel, by decide +kernel⟩
theorem lk_X8_146 : Cond.methodLink RX8 146 yX8_change ∈ gw := gw_i 961 (by decide +kernel) rfl
theorem iv_X8_change : Cond.instanceMethod yX8_change ∈ gw ∧ Cond.selects RX8 yX8_change yX8_change ∈ gw := ⟨gw_i 963 (by decide +kernel) rfl, gw_i 40 (by decide +kernel) rfl⟩
theorem yk_X8_callAll : g_Y yX8_callAll cX8_callAll 4 (none : Option Jvm.ClassFile.FieldType) 2 := ⟨gw_i 941 (by decide +kernel) rfl, gw_i 64 (by decide +kernel) rfl, by decide +kernel, by decide +kernel, by decide +kernel⟩
theorem lk_X8_143 : Cond.methodLink RX8 143 yX8_callAll ∈ gw := gw_i 938 (by decide +kernel) rfl
theorem iv_X8_callAll : Cond.instanceMethod yX8_callAll ∈ gw ∧ Cond.selects RX8 yX8_callAll yX8_callAll ∈ gw := ⟨gw_i 940 (by decide +kernel) rfl, gw_i 35 (by decide +kernel) rfl⟩
theorem yk_X8_spread : g_Y yX8_spread cX8_spread 10 (none : Option Jvm.ClassFile.FieldType) 2 := ⟨gw_i 937 (by decide +kernel) rfl, gw_i 64 (by decide +kernel) rfl, by decide +kernel, by decide +kernel, by decide +kernel⟩
theorem lk_X8_149 : Cond.methodLink RX8 149 yX8_spread ∈ gw := gw_i 934 (by decide +kernel) rfl
theorem iv_X8_spread : Cond.instanceMethod yX8_spread ∈ gw ∧ Cond.selects RX8 yX8_spread yX8_spread ∈ gw := ⟨gw_i 936 (by decide +kernel) rfl, gw_i 34 (by decide +kernel) rfl⟩
theorem lk_X8_155 : Cond.methodLink RX8 155 yX8_placeOf ∈ gw := gw_i 982 (by decide +kernel) rfl
theorem yk_X8_placeOf : g_Y yX8_placeOf cX8_placeOf 1 (some .int) 1 := ⟨gw_i 984 (by decide +kernel) rfl, gw_i 64 (by decide +kernel) rfl, by decide +kernel, by decide +kernel, by decide +kernel⟩
theorem is_X8_placeOf : Cond.static yX8_placeOf ∈ gw := gw_i 983 (by decide +kernel) rfl
theorem yk_X8_isCall : g_Y yX8_isCall cX8_isCall 4 (some .boolean) 1 := ⟨gw_i 981 (by decide +kernel) rfl, gw_i 64 (by decide +kernel) rfl, by decide +kernel, by decide +kernel, by decide +kernel⟩
theorem lk_X8_152 : Cond.methodLink RX8 152 yX8_isCall ∈ gw := gw_i 978 (by decide +kernel) rfl
theorem iv_X8_isCall : Cond.instanceMethod yX8_isCall ∈ gw ∧ Cond.selects RX8 yX8_isCall yX8_isCall ∈ gw := ⟨gw_i 980 (by decide +kernel) rfl, gw_i 43 (by decide +kernel) rfl⟩
abbrev w_X8_change (cI cZ cJ : ClassId) (a_t : Nat) (a_t_now : Nat) (a_t_any : Nat) (a_t_number : Nat) (a_t_outAny : Nat) (a_t_out : Nat) (a_t_parameters : Nat) (a_t_length : Nat) (a_t_newLength : Nat) (a_t_first : Nat) (a_t_anew : Nat) (a_t_table : Nat) (a_t_inputs : Nat) (a_t_met : Nat) (a_t_at : Nat) (a_t_in : Nat) (a_t_back : Nat) (a_t_register : Nat) (a_t_output : Nat) (a_t_calls : Nat) (a_t_latest : Nat) (a_t_differ : Nat) (t_code : Int32) (t_own : Int32) (t_count : Int32) (t_tableSize : Int32) (t_given : Int32) (t_known : Int32) (t_news : Int32) (t_depth : Int32) (t_steps : Int32) (t_taken : Int32) (t_shown : Int32) (t_outcome : Int32) (t_now : Nat → Int32) (t_any : Nat → Int32) (t_number : Nat → Int32) (t_outAny : Nat → Int32) (t_out : Nat → Int32) : va_W := [(a_t, .inr (8, [.int t_code, .int t_own, .int t_count, .ref a_t_parameters, .ref a_t_length, .ref a_t_newLength, .ref a_t_first, .ref a_t_now, .ref a_t_anew, .int t_tableSize, .ref a_t_table, .int t_given, .ref a_t_inputs, .int t_known, .ref a_t_met, .ref a_t_any, .ref a_t_number, .int t_news, .ref a_t_outAny, .ref a_t_out, .int t_depth, .int t_steps, .int t_taken, .int t_shown, .ref a_t_at, .ref a_t_in, .ref a_t_back, .ref a_t_register, .ref a_t_output, .ref a_t_calls, .ref a_t_latest, .ref a_t_differ, .int t_outcome])), (a_t_now, .inl (cI, 1152, .inl t_now)), (a_t_any, .inl (cZ, 1224, .inl t_any)), (a_t_number, .inl (cI, 1224, .inl t_number)), (a_t_outAny, .inl (cZ, 6, .inl t_outAny)), (a_t_out, .inl (cI, 6, .inl t_out))]
abbrev r_X8_change : Room := { frames := 2, cells := 0, slots := 0, locals := 42 }
def f_X8_change_236 (N : Nat) (x1 : Int32) (x2 : Int32) (t_tableSize : Int32) (t_now : Nat → Int32) (t_any : Nat → Int32) (t_number : Nat → Int32) (x3 : Int32) (x4 : Int32) (t_outAny : Nat → Int32) (t_out : Nat → Int32) : Option ((Nat → Int32) × (Nat → Int32)) := if x3 = 11 then if t_tableSize ≤ 0 then (g_wz 6 t_outAny x4 0).bind (fun s5 => (g_wr 6 t_out x4 0).bind (fun s6 => some (s5, s6))) else (g_wz 6 t_outAny x4 1).bind (fun s7 => (g_wr 6 t_out x4 0).bind (fun s8 => some (s7, s8))) else (g_wz 6 t_outAny x4 1).bind (fun s2 => (g_wr 6 t_out x4 0).bind (fun s3 => some (s2, s3)))
set_option maxHeartbeats 4000000 in
set_option maxRecDepth 100000 in
theorem b_X8_change_236 {p : Program} {l : Launch} {e : Env} {s : State} {m : MethodId} {args : Array Value} {below : List Frame} {meth : Method} {c : Code} {tA : Nat} {dC : Nat → ClassId} {dI : Nat → Nat → Nat} {cI cZ cJ : ClassId} {A : Nat → Prop} {a_t : Nat} {a_t_now : Nat} {a_t_any : Nat} {a_t_number : Nat} {a_t_outAny : Nat} {a_t_out : Nat} {a_t_parameters : Nat} {a_t_length : Nat} {a_t_newLength : Nat} {a_t_first : Nat} {a_t_anew : Nat} {a_t_table : Nat} {a_t_inputs : Nat} {a_t_met : Nat} {a_t_at : Nat} {a_t_in : Nat} {a_t_back : Nat} {a_t_register : Nat} {a_t_output : Nat} {a_t_calls : Nat} {a_t_latest : Nat} {a_t_differ : Nat} {x1 : Int32} {x2 : Int32} {t_tableSize : Int32} {t_now : Nat → Int32} {t_any : Nat → Int32} {t_number : Nat → Int32} {t_code : Int32} {t_own : Int32} {t_count : Int32} {t_given : Int32} {t_known : Int32} {t_news : Int32} {t_depth : Int32} {t_steps : Int32} {t_taken : Int32} {t_shown : Int32} {t_outcome : Int32} {N : Nat} {x3 : Int32} {x4 : Int32} {t_outAny : Nat → Int32} {t_out : Nat → Int32} {out : (Nat → Int32) × (Nat → Int32)} (hC : g_C p s m meth c args cX8_change 7 (none : Option Jvm.ClassFile.FieldType) RX8) (hf : f_X8_change_236 N x1 x2 t_tableSize t_now t_any t_number x3 x4 t_outAny t_out = some out) {H : Heap} {locs : List Loc} {ls : Array Slot} (hW : g_W tA dC dI cI cZ cJ A s H locs (w_X8_change cI cZ cJ a_t a_t_now a_t_any a_t_number a_t_outAny a_t_out a_t_parameters a_t_length a_t_newLength a_t_first a_t_anew a_t_table a_t_inputs a_t_met a_t_at a_t_in a_t_back a_t_register a_t_output a_t_calls a_t_latest a_t_differ t_code t_own t_count t_tableSize t_given t_known t_news t_depth t_steps t_taken t_shown t_outcome t_now t_any t_number t_outAny t_out)) (hl : lv_has ls 7 [(0, .ref a_t), (3, .int x3), (4, .int x4)]) : W p l e r_X8_change s m args below meth c H locs 0 0 (MQ below (g_Qv dC dI cI cZ cJ A (w_X8_change cI cZ cJ a_t a_t_now a_t_any a_t_number a_t_outAny a_t_out a_t_parameters a_t_length a_t_newLength a_t_first a_t_anew a_t_table a_t_inputs a_t_met a_t_at a_t_in a_t_back a_t_register a_t_output a_t_calls a_t_latest a_t_differ t_code t_own t_count t_tableSize t_given t_known t_news t_depth t_steps t_taken t_shown t_outcome t_now t_any t_number out.1 out.2)) args s 0 0 A) (F0 m 236 ls []) := by
  have hx := hC.1
  have hb := hC.2.1
  have hown := hC.2.2.2.2.1
  have hts := hC.2.2.2.2.2.1
  unfold f_X8_change_236 at hf
  refine lv_aload_n hx hb dX8_change_236 rfl (lv_at hl 0 rfl) ?_
  refine gs_get hC hW in_X8 0 18 rfl rfl (by decide) fl_X8_44 rfl dX8_change_237 ?_
  refine lv_iload hx hb dX8_change_240 (lv_at hl 2 rfl) ?_
  refine lv_iload_n hx hb dX8_change_242 rfl (lv_at hl 1 rfl) ?_
  refine lv_bipush (v := 11) hx hb dX8_change_243 (by decide) ?_
  refine lv_icmp_ne (tgt := 255) hx hb dX8_change_245 (by decide) (fun c1 => ?_) (fun c1 => ?_)
  · replace hf := (if_neg c1).symm.trans hf
    refine lv_iconst (v := 1) hx hb dX8_change_255 (by decide) ?_
    refine lv_goto (tgt := 260) hx hb dX8_change_256 (by decide) ?_
    obtain ⟨s2, h2, hf⟩ := g_bnd hf
    refine gs_zast (ws' := w_X8_change cI cZ cJ a_t a_t_now a_t_any a_t_number a_t_outAny a_t_out a_t_parameters a_t_length a_t_newLength a_t_first a_t_anew a_t_table a_t_inputs a_t_met a_t_at a_t_in a_t_back a_t_register a_t_output a_t_calls a_t_latest a_t_differ t_code t_own t_count t_tableSize t_given t_known t_news t_depth t_steps t_taken t_shown t_outcome t_now t_any t_number s2 t_out) hC hW 4 h2 rfl rfl dX8_change_260 (fun H locs hW => ?_)
    refine lv_aload_n hx hb dX8_change_261 rfl (lv_at hl 0 rfl) ?_
    refine gs_get hC hW in_X8 0 19 rfl rfl (by decide) fl_X8_47 rfl dX8_change_262 ?_
    refine lv_iload hx hb dX8_change_265 (lv_at hl 2 rfl) ?_
    refine lv_iconst (v := 0) hx hb dX8_change_267 (by decide) ?_
    obtain ⟨s3, h3, hf⟩ := g_bnd hf
    refine gs_iast (ws' := w_X8_change cI cZ cJ a_t a_t_now a_t_any a_t_number a_t_outAny a_t_out a_t_parameters a_t_length a_t_newLength a_t_first a_t_anew a_t_table a_t_inputs a_t_met a_t_at a_t_in a_t_back a_t_register a_t_output a_t_calls a_t_latest a_t_differ t_code t_own t_count t_tableSize t_given t_known t_news t_depth t_steps t_taken t_shown t_outcome t_now t_any t_number s2 s3) hC hW 5 h3 rfl rfl dX8_change_268 (fun H locs hW => ?_)
    obtain rfl := Option.some.inj hf
    exact gs_rv hC hW rfl dX8_change_269
  · replace hf := (if_pos c1).symm.trans hf
    refine lv_aload_n hx hb dX8_change_248 rfl (lv_at hl 0 rfl) ?_
    refine gs_get hC hW in_X8 0 9 rfl rfl (by decide) fl_X8_106 rfl dX8_change_249 ?_
    refine lv_if_le (tgt := 259) hx hb dX8_change_252 (by decide) (fun c4 => ?_) (fun c4 => ?_)
    · replace hf := (if_pos c4).symm.trans hf
      refine lv_iconst (v := 0) hx hb dX8_change_259 (by decide) ?_
      obtain ⟨s5, h5, hf⟩ := g_bnd hf
      refine gs_zast (ws' := w_X8_change cI cZ cJ a_t a_t_now a_t_any a_t_number a_t_outAny a_t_out a_t_parameters a_t_length a_t_newLength a_t_first a_t_anew a_t_table a_t_inputs a_t_met a_t_at a_t_in a_t_back a_t_register a_t_output a_t_calls a_t_latest a_t_differ t_code t_own t_count t_tableSize t_given t_known t_news t_depth t_steps t_taken t_shown t_outcome t_now t_any t_number s5 t_out) hC hW 4 h5 rfl rfl dX8_change_260 (fun H locs hW => ?_)
      refine lv_aload_n hx hb dX8_change_261 rfl (lv_at hl 0 rfl) ?_
      refine gs_get hC hW in_X8 0 19 rfl rfl (by decide) fl_X8_47 rfl dX8_change_262 ?_
      refine lv_iload hx hb dX8_change_265 (lv_at hl 2 rfl) ?_
      refine lv_iconst (v := 0) hx hb dX8_change_267 (by decide) ?_
      obtain ⟨s6, h6, hf⟩ := g_bnd hf
      refine gs_iast (ws' := w_X8_change cI cZ cJ a_t a_t_now a_t_any a_t_number a_t_outAny a_t_out a_t_parameters a_t_length a_t_newLength a_t_first a_t_anew a_t_table a_t_inputs a_t_met a_t_at a_t_in a_t_back a_t_register a_t_output a_t_calls a_t_latest a_t_differ t_code t_own t_count t_tableSize t_given t_known t_news t_depth t_steps t_taken t_shown t_outcome t_now t_any t_number s5 s6) hC hW 5 h6 rfl rfl dX8_change_268 (fun H locs hW => ?_)
      obtain rfl := Option.some.inj hf
      exact gs_rv hC hW rfl dX8_change_269
    · replace hf := (if_neg c4).symm.trans hf
      refine lv_iconst (v := 1) hx hb dX8_change_255 (by decide) ?_
      refine lv_goto (tgt := 260) hx hb dX8_change_256 (by decide) ?_
      obtain ⟨s7, h7, hf⟩ := g_bnd hf
      refine gs_zast (ws' := w_X8_change cI cZ cJ a_t a_t_now a_t_any a_t_number a_t_outAny a_t_out a_t_parameters a_t_length a_t_newLength a_t_first a_t_anew a_t_table a_t_inputs a_t_met a_t_at a_t_in a_t_back a_t_register a_t_output a_t_calls a_t_latest a_t_differ t_code t_own t_count t_tableSize t_given t_known t_news t_depth t_steps t_taken t_shown t_outcome t_now t_any t_number s7 t_out) hC hW 4 h7 rfl rfl dX8_change_260 (fun H locs hW => ?_)
      refine lv_aload_n hx hb dX8_change_261 rfl (lv_at hl 0 rfl) ?_
      refine gs_get hC hW in_X8 0 19 rfl rfl (by decide) fl_X8_47 rfl dX8_change_262 ?_
      refine lv_iload hx hb dX8_change_265 (lv_at hl 2 rfl) ?_
      refine lv_iconst (v := 0) hx hb dX8_change_267 (by decide) ?_
      obtain ⟨s8, h8, hf⟩ := g_bnd hf
      refine gs_iast (ws' := w_X8_change cI cZ cJ a_t a_t_now a_t_any a_t_number a_t_outAny a_t_out a_t_parameters a_t_length a_t_newLength a_t_first a_t_anew a_t_table a_t_inputs a_t_met a_t_at a_t_in a_t_back a_t_register a_t_output a_t_calls a_t_latest a_t_differ t_code t_own t_count t_tableSize t_given t_known t_news t_depth t_steps t_taken t_shown t_outcome t_now t_any t_number s7 s8) hC hW 5 h8 rfl rfl dX8_change_268 (fun H locs hW => ?_)
      obtain rfl := Option.some.inj hf
      exact gs_rv hC hW rfl dX8_change_269
def f_X8_change_192 (N : Nat) (x1 : Int32) (x2 : Int32) (t_tableSize : Int32) (t_now : Nat → Int32) (t_any : Nat → Int32) (t_number : Nat → Int32) (x4 : Int32) (x6 : Int32) (z0 : Int32) (z1 : Int32) (t_outAny : Nat → Int32) (t_out : Nat → Int32) : Option ((Nat → Int32) × (Nat → Int32)) := (g_wz 6 t_outAny z1 z0).bind (fun s9 => (g_rd 6 s9 x4).bind (fun v10 => if v10 = 0 then (g_wr 6 t_out x4 x6).bind (fun s12 => some (s9, s12)) else (g_wr 6 t_out x4 0).bind (fun s13 => some (s9, s13))))
set_option maxHeartbeats 4000000 in
set_option maxRecDepth 100000 in
theorem b_X8_change_192 {p : Program} {l : Launch} {e : Env} {s : State} {m : MethodId} {args : Array Value} {below : List Frame} {meth : Method} {c : Code} {tA : Nat} {dC : Nat → ClassId} {dI : Nat → Nat → Nat} {cI cZ cJ : ClassId} {A : Nat → Prop} {a_t : Nat} {a_t_now : Nat} {a_t_any : Nat} {a_t_number : Nat} {a_t_outAny : Nat} {a_t_out : Nat} {a_t_parameters : Nat} {a_t_length : Nat} {a_t_newLength : Nat} {a_t_first : Nat} {a_t_anew : Nat} {a_t_table : Nat} {a_t_inputs : Nat} {a_t_met : Nat} {a_t_at : Nat} {a_t_in : Nat} {a_t_back : Nat} {a_t_register : Nat} {a_t_output : Nat} {a_t_calls : Nat} {a_t_latest : Nat} {a_t_differ : Nat} {x1 : Int32} {x2 : Int32} {t_tableSize : Int32} {t_now : Nat → Int32} {t_any : Nat → Int32} {t_number : Nat → Int32} {t_code : Int32} {t_own : Int32} {t_count : Int32} {t_given : Int32} {t_known : Int32} {t_news : Int32} {t_depth : Int32} {t_steps : Int32} {t_taken : Int32} {t_shown : Int32} {t_outcome : Int32} {N : Nat} {x4 : Int32} {x6 : Int32} {z0 : Int32} {z1 : Int32} {t_outAny : Nat → Int32} {t_out : Nat → Int32} {out : (Nat → Int32) × (Nat → Int32)} (hC : g_C p s m meth c args cX8_change 7 (none : Option Jvm.ClassFile.FieldType) RX8) (hf : f_X8_change_192 N x1 x2 t_tableSize t_now t_any t_number x4 x6 z0 z1 t_outAny t_out = some out) {H : Heap} {locs : List Loc} {ls : Array Slot} (hW : g_W tA dC dI cI cZ cJ A s H locs (w_X8_change cI cZ cJ a_t a_t_now a_t_any a_t_number a_t_outAny a_t_out a_t_parameters a_t_length a_t_newLength a_t_first a_t_anew a_t_table a_t_inputs a_t_met a_t_at a_t_in a_t_back a_t_register a_t_output a_t_calls a_t_latest a_t_differ t_code t_own t_count t_tableSize t_given t_known t_news t_depth t_steps t_taken t_shown t_outcome t_now t_any t_number t_outAny t_out)) (hl : lv_has ls 7 [(0, .ref a_t), (4, .int x4), (6, .int x6)]) : W p l e r_X8_change s m args below meth c H locs 0 0 (MQ below (g_Qv dC dI cI cZ cJ A (w_X8_change cI cZ cJ a_t a_t_now a_t_any a_t_number a_t_outAny a_t_out a_t_parameters a_t_length a_t_newLength a_t_first a_t_anew a_t_table a_t_inputs a_t_met a_t_at a_t_in a_t_back a_t_register a_t_output a_t_calls a_t_latest a_t_differ t_code t_own t_count t_tableSize t_given t_known t_news t_depth t_steps t_taken t_shown t_outcome t_now t_any t_number out.1 out.2)) args s 0 0 A) (F0 m 192 ls [.int z0, .int z1, .ref a_t_outAny]) := by
  have hx := hC.1
  have hb := hC.2.1
  have hown := hC.2.2.2.2.1
  have hts := hC.2.2.2.2.2.1
  unfold f_X8_change_192 at hf
  obtain ⟨s9, h9, hf⟩ := g_bnd hf
  refine gs_zast (ws' := w_X8_change cI cZ cJ a_t a_t_now a_t_any a_t_number a_t_outAny a_t_out a_t_parameters a_t_length a_t_newLength a_t_first a_t_anew a_t_table a_t_inputs a_t_met a_t_at a_t_in a_t_back a_t_register a_t_output a_t_calls a_t_latest a_t_differ t_code t_own t_count t_tableSize t_given t_known t_news t_depth t_steps t_taken t_shown t_outcome t_now t_any t_number s9 t_out) hC hW 4 h9 rfl rfl dX8_change_192 (fun H locs hW => ?_)
  refine lv_aload_n hx hb dX8_change_193 rfl (lv_at hl 0 rfl) ?_
  refine gs_get hC hW in_X8 0 19 rfl rfl (by decide) fl_X8_47 rfl dX8_change_194 ?_
  refine lv_iload hx hb dX8_change_197 (lv_at hl 1 rfl) ?_
  refine lv_aload_n hx hb dX8_change_199 rfl (lv_at hl 0 rfl) ?_
  refine gs_get hC hW in_X8 0 18 rfl rfl (by decide) fl_X8_44 rfl dX8_change_200 ?_
  refine lv_iload hx hb dX8_change_203 (lv_at hl 1 rfl) ?_
  obtain ⟨v10, h10, hf⟩ := g_bnd hf
  refine gs_zald hC hW 4 h10 rfl dX8_change_205 ?_
  refine lv_if_eq (tgt := 213) hx hb dX8_change_206 (by decide) (fun c11 => ?_) (fun c11 => ?_)
  · replace hf := (if_pos c11).symm.trans hf
    refine lv_iload hx hb dX8_change_213 (lv_at hl 2 rfl) ?_
    obtain ⟨s12, h12, hf⟩ := g_bnd hf
    refine gs_iast (ws' := w_X8_change cI cZ cJ a_t a_t_now a_t_any a_t_number a_t_outAny a_t_out a_t_parameters a_t_length a_t_newLength a_t_first a_t_anew a_t_table a_t_inputs a_t_met a_t_at a_t_in a_t_back a_t_register a_t_output a_t_calls a_t_latest a_t_differ t_code t_own t_count t_tableSize t_given t_known t_news t_depth t_steps t_taken t_shown t_outcome t_now t_any t_number s9 s12) hC hW 5 h12 rfl rfl dX8_change_215 (fun H locs hW => ?_)
    refine lv_goto (tgt := 269) hx hb dX8_change_216 (by decide) ?_
    obtain rfl := Option.some.inj hf
    exact gs_rv hC hW rfl dX8_change_269
  · replace hf := (if_neg c11).symm.trans hf
    refine lv_iconst (v := 0) hx hb dX8_change_209 (by decide) ?_
    refine lv_goto (tgt := 215) hx hb dX8_change_210 (by decide) ?_
    obtain ⟨s13, h13, hf⟩ := g_bnd hf
    refine gs_iast (ws' := w_X8_change cI cZ cJ a_t a_t_now a_t_any a_t_number a_t_outAny a_t_out a_t_parameters a_t_length a_t_newLength a_t_first a_t_anew a_t_table a_t_inputs a_t_met a_t_at a_t_in a_t_back a_t_register a_t_output a_t_calls a_t_latest a_t_differ t_code t_own t_count t_tableSize t_given t_known t_news t_depth t_steps t_taken t_shown t_outcome t_now t_any t_number s9 s13) hC hW 5 h13 rfl rfl dX8_change_215 (fun H locs hW => ?_)
    refine lv_goto (tgt := 269) hx hb dX8_change_216 (by decide) ?_
    obtain rfl := Option.some.inj hf
    exact gs_rv hC hW rfl dX8_change_269
def f_X8_change_160 (N : Nat) (x1 : Int32) (x2 : Int32) (t_tableSize : Int32) (t_now : Nat → Int32) (t_any : Nat → Int32) (t_number : Nat → Int32) (x4 : Int32) (x5 : Int32) (z0 : Int32) (t_outAny : Nat → Int32) (t_out : Nat → Int32) : Option ((Nat → Int32) × (Nat → Int32)) := if x5 = 0 then f_X8_change_192 N x1 x2 t_tableSize t_now t_any t_number x4 z0 1 x4 t_outAny t_out else if z0 < (-268435456) then f_X8_change_192 N x1 x2 t_tableSize t_now t_any t_number x4 z0 1 x4 t_outAny t_out else if z0 ≤ 268435455 then f_X8_change_192 N x1 x2 t_tableSize t_now t_any t_number x4 z0 0 x4 t_outAny t_out else f_X8_change_192 N x1 x2 t_tableSize t_now t_any t_number x4 z0 1 x4 t_outAny t_out
set_option maxHeartbeats 4000000 in
set_option maxRecDepth 100000 in
theorem b_X8_change_160 {p : Program} {l : Launch} {e : Env} {s : State} {m : MethodId} {args : Array Value} {below : List Frame} {meth : Method} {c : Code} {tA : Nat} {dC : Nat → ClassId} {dI : Nat → Nat → Nat} {cI cZ cJ : ClassId} {A : Nat → Prop} {a_t : Nat} {a_t_now : Nat} {a_t_any : Nat} {a_t_number : Nat} {a_t_outAny : Nat} {a_t_out : Nat} {a_t_parameters : Nat} {a_t_length : Nat} {a_t_newLength : Nat} {a_t_first : Nat} {a_t_anew : Nat} {a_t_table : Nat} {a_t_inputs : Nat} {a_t_met : Nat} {a_t_at : Nat} {a_t_in : Nat} {a_t_back : Nat} {a_t_register : Nat} {a_t_output : Nat} {a_t_calls : Nat} {a_t_latest : Nat} {a_t_differ : Nat} {x1 : Int32} {x2 : Int32} {t_tableSize : Int32} {t_now : Nat → Int32} {t_any : Nat → Int32} {t_number : Nat → Int32} {t_code : Int32} {t_own : Int32} {t_count : Int32} {t_given : Int32} {t_known : Int32} {t_news : Int32} {t_depth : Int32} {t_steps : Int32} {t_taken : Int32} {t_shown : Int32} {t_outcome : Int32} {N : Nat} {x4 : Int32} {x5 : Int32} {z0 : Int32} {t_outAny : Nat → Int32} {t_out : Nat → Int32} {out : (Nat → Int32) × (Nat → Int32)} (hC : g_C p s m meth c args cX8_change 7 (none : Option Jvm.ClassFile.FieldType) RX8) (hf : f_X8_change_160 N x1 x2 t_tableSize t_now t_any t_number x4 x5 z0 t_outAny t_out = some out) {H : Heap} {locs : List Loc} {ls : Array Slot} (hW : g_W tA dC dI cI cZ cJ A s H locs (w_X8_change cI cZ cJ a_t a_t_now a_t_any a_t_number a_t_outAny a_t_out a_t_parameters a_t_length a_t_newLength a_t_first a_t_anew a_t_table a_t_inputs a_t_met a_t_at a_t_in a_t_back a_t_register a_t_output a_t_calls a_t_latest a_t_differ t_code t_own t_count t_tableSize t_given t_known t_news t_depth t_steps t_taken t_shown t_outcome t_now t_any t_number t_outAny t_out)) (hl : lv_has ls 7 [(0, .ref a_t), (4, .int x4), (5, .int x5)]) : W p l e r_X8_change s m args below meth c H locs 0 0 (MQ below (g_Qv dC dI cI cZ cJ A (w_X8_change cI cZ cJ a_t a_t_now a_t_any a_t_number a_t_outAny a_t_out a_t_parameters a_t_length a_t_newLength a_t_first a_t_anew a_t_table a_t_inputs a_t_met a_t_at a_t_in a_t_back a_t_register a_t_output a_t_calls a_t_latest a_t_differ t_code t_own t_count t_tableSize t_given t_known t_news t_depth t_steps t_taken t_shown t_outcome t_now t_any t_number out.1 out.2)) args s 0 0 A) (F0 m 160 ls [.int z0]) := by
  have hx := hC.1
  have hb := hC.2.1
  have hown := hC.2.2.2.2.1
  have hts := hC.2.2.2.2.2.1
  unfold f_X8_change_160 at hf
  refine lv_istore (lv' := [(6, .int z0), (0, .ref a_t), (4, .int x4), (5, .int x5)]) hx hb dX8_change_160 hl (by decide) rfl (fun ls hl => ?_)
  refine lv_aload_n hx hb dX8_change_162 rfl (lv_at hl 1 rfl) ?_
  refine gs_get hC hW in_X8 0 18 rfl rfl (by decide) fl_X8_44 rfl dX8_change_163 ?_
  refine lv_iload hx hb dX8_change_166 (lv_at hl 2 rfl) ?_
  refine lv_iload hx hb dX8_change_168 (lv_at hl 3 rfl) ?_
  refine lv_if_eq (tgt := 187) hx hb dX8_change_170 (by decide) (fun c14 => ?_) (fun c14 => ?_)
  · replace hf := (if_pos c14).symm.trans hf
    refine lv_iconst (v := 1) hx hb dX8_change_187 (by decide) ?_
    refine lv_goto (tgt := 192) hx hb dX8_change_188 (by decide) ?_
    exact b_X8_change_192 hC hf hW (lv_sub hl [1, 2, 0] rfl)
  · replace hf := (if_neg c14).symm.trans hf
    refine lv_iload hx hb dX8_change_173 (lv_at hl 0 rfl) ?_
    refine lv_ldc (v := (-268435456)) hx hb hown (hts _ co_X8_141) dX8_change_175 ?_
    refine lv_icmp_lt (tgt := 187) hx hb dX8_change_177 (by decide) (fun c15 => ?_) (fun c15 => ?_)
    · replace hf := (if_pos c15).symm.trans hf
      refine lv_iconst (v := 1) hx hb dX8_change_187 (by decide) ?_
      refine lv_goto (tgt := 192) hx hb dX8_change_188 (by decide) ?_
      exact b_X8_change_192 hC hf hW (lv_sub hl [1, 2, 0] rfl)
    · replace hf := (if_neg c15).symm.trans hf
      refine lv_iload hx hb dX8_change_180 (lv_at hl 0 rfl) ?_
      refine lv_ldc (v := 268435455) hx hb hown (hts _ co_X8_142) dX8_change_182 ?_
      refine lv_icmp_le (tgt := 191) hx hb dX8_change_184 (by decide) (fun c16 => ?_) (fun c16 => ?_)
      · replace hf := (if_pos c16).symm.trans hf
        refine lv_iconst (v := 0) hx hb dX8_change_191 (by decide) ?_
        exact b_X8_change_192 hC hf hW (lv_sub hl [1, 2, 0] rfl)
      · replace hf := (if_neg c16).symm.trans hf
        refine lv_iconst (v := 1) hx hb dX8_change_187 (by decide) ?_
        refine lv_goto (tgt := 192) hx hb dX8_change_188 (by decide) ?_
        exact b_X8_change_192 hC hf hW (lv_sub hl [1, 2, 0] rfl)
def f_X8_change_111 (N : Nat) (x1 : Int32) (x2 : Int32) (t_tableSize : Int32) (t_now : Nat → Int32) (t_any : Nat → Int32) (t_number : Nat → Int32) (x3 : Int32) (x4 : Int32) (z0 : Int32) (t_outAny : Nat → Int32) (t_out : Nat → Int32) : Option ((Nat → Int32) × (Nat → Int32)) := if z0 = 0 then f_X8_change_160 N x1 x2 t_tableSize t_now t_any t_number x4 z0 0 t_outAny t_out else (g_rd 1152 t_now (x1 + 3)).bind (fun v18 => (f_X8_valueAt x2 v18 t_number).bind (fun o19 => if x3 = 0 then (f_X8_reckon x3 o19 0).bind (fun o24 => f_X8_change_160 N x1 x2 t_tableSize t_now t_any t_number x4 z0 o24 t_outAny t_out) else (g_rd 1152 t_now (x1 + 4)).bind (fun v21 => (f_X8_valueAt x2 v21 t_number).bind (fun o22 => (f_X8_reckon x3 o19 o22).bind (fun o23 => f_X8_change_160 N x1 x2 t_tableSize t_now t_any t_number x4 z0 o23 t_outAny t_out)))))
set_option maxHeartbeats 4000000 in
set_option maxRecDepth 100000 in
theorem b_X8_change_111 {p : Program} {l : Launch} {e : Env} {s : State} {m : MethodId} {args : Array Value} {below : List Frame} {meth : Method} {c : Code} {tA : Nat} {dC : Nat → ClassId} {dI : Nat → Nat → Nat} {cI cZ cJ : ClassId} {A : Nat → Prop} {a_t : Nat} {a_t_now : Nat} {a_t_any : Nat} {a_t_number : Nat} {a_t_outAny : Nat} {a_t_out : Nat} {a_t_parameters : Nat} {a_t_length : Nat} {a_t_newLength : Nat} {a_t_first : Nat} {a_t_anew : Nat} {a_t_table : Nat} {a_t_inputs : Nat} {a_t_met : Nat} {a_t_at : Nat} {a_t_in : Nat} {a_t_back : Nat} {a_t_register : Nat} {a_t_output : Nat} {a_t_calls : Nat} {a_t_latest : Nat} {a_t_differ : Nat} {x1 : Int32} {x2 : Int32} {t_tableSize : Int32} {t_now : Nat → Int32} {t_any : Nat → Int32} {t_number : Nat → Int32} {t_code : Int32} {t_own : Int32} {t_count : Int32} {t_given : Int32} {t_known : Int32} {t_news : Int32} {t_depth : Int32} {t_steps : Int32} {t_taken : Int32} {t_shown : Int32} {t_outcome : Int32} {N : Nat} {x3 : Int32} {x4 : Int32} {z0 : Int32} {t_outAny : Nat → Int32} {t_out : Nat → Int32} {out : (Nat → Int32) × (Nat → Int32)} (hC : g_C p s m meth c args cX8_change 7 (none : Option Jvm.ClassFile.FieldType) RX8) (hf : f_X8_change_111 N x1 x2 t_tableSize t_now t_any t_number x3 x4 z0 t_outAny t_out = some out) {H : Heap} {locs : List Loc} {ls : Array Slot} (hW : g_W tA dC dI cI cZ cJ A s H locs (w_X8_change cI cZ cJ a_t a_t_now a_t_any a_t_number a_t_outAny a_t_out a_t_parameters a_t_length a_t_newLength a_t_first a_t_anew a_t_table a_t_inputs a_t_met a_t_at a_t_in a_t_back a_t_register a_t_output a_t_calls a_t_latest a_t_differ t_code t_own t_count t_tableSize t_given t_known t_news t_depth t_steps t_taken t_shown t_outcome t_now t_any t_number t_outAny t_out)) (hl : lv_has ls 7 [(0, .ref a_t), (1, .int x1), (2, .int x2), (3, .int x3), (4, .int x4)]) : W p l e r_X8_change s m args below meth c H locs 0 0 (MQ below (g_Qv dC dI cI cZ cJ A (w_X8_change cI cZ cJ a_t a_t_now a_t_any a_t_number a_t_outAny a_t_out a_t_parameters a_t_length a_t_newLength a_t_first a_t_anew a_t_table a_t_inputs a_t_met a_t_at a_t_in a_t_back a_t_register a_t_output a_t_calls a_t_latest a_t_differ t_code t_own t_count t_tableSize t_given t_known t_news t_depth t_steps t_taken t_shown t_outcome t_now t_any t_number out.1 out.2)) args s 0 0 A) (F0 m 111 ls [.int z0]) := by
  have hx := hC.1
  have hb := hC.2.1
  have hown := hC.2.2.2.2.1
  have hts := hC.2.2.2.2.2.1
  unfold f_X8_change_111 at hf
  refine lv_istore (lv' := [(5, .int z0), (0, .ref a_t), (1, .int x1), (2, .int x2), (3, .int x3), (4, .int x4)]) hx hb dX8_change_111 hl (by decide) rfl (fun ls hl => ?_)
  refine lv_iload hx hb dX8_change_113 (lv_at hl 0 rfl) ?_
  refine lv_if_eq (tgt := 159) hx hb dX8_change_115 (by decide) (fun c17 => ?_) (fun c17 => ?_)
  · replace hf := (if_pos c17).symm.trans hf
    refine lv_iconst (v := 0) hx hb dX8_change_159 (by decide) ?_
    exact b_X8_change_160 hC hf hW (lv_sub hl [1, 5, 0] rfl)
  · replace hf := (if_neg c17).symm.trans hf
    refine lv_iload_n hx hb dX8_change_118 rfl (lv_at hl 4 rfl) ?_
    refine lv_aload_n hx hb dX8_change_119 rfl (lv_at hl 1 rfl) ?_
    refine lv_iload_n hx hb dX8_change_120 rfl (lv_at hl 3 rfl) ?_
    refine lv_aload_n hx hb dX8_change_121 rfl (lv_at hl 1 rfl) ?_
    refine gs_get hC hW in_X8 0 7 rfl rfl (by decide) fl_X8_22 rfl dX8_change_122 ?_
    refine lv_iload_n hx hb dX8_change_125 rfl (lv_at hl 2 rfl) ?_
    refine lv_iconst (v := 3) hx hb dX8_change_126 (by decide) ?_
    refine lv_iadd hx hb dX8_change_127 ?_
    obtain ⟨v18, h18, hf⟩ := g_bnd hf
    refine gs_iald hC hW 1 h18 rfl dX8_change_128 ?_
    obtain ⟨o19, h19, hf⟩ := g_bnd hf
    refine gs_callVi (ws' := w_X8_change cI cZ cJ a_t a_t_now a_t_any a_t_number a_t_outAny a_t_out a_t_parameters a_t_length a_t_newLength a_t_first a_t_anew a_t_table a_t_inputs a_t_met a_t_at a_t_in a_t_back a_t_register a_t_output a_t_calls a_t_latest a_t_differ t_code t_own t_count t_tableSize t_given t_known t_news t_depth t_steps t_taken t_shown t_outcome t_now t_any t_number t_outAny t_out) hC hW (k_X8_valueAt l tA dC dI cI cZ cJ a_t a_t_number a_t_parameters a_t_length a_t_newLength a_t_first a_t_now a_t_anew a_t_table a_t_inputs a_t_met a_t_any a_t_outAny a_t_out a_t_at a_t_in a_t_back a_t_register a_t_output a_t_calls a_t_latest a_t_differ x2 v18 t_code t_own t_count t_tableSize t_given t_known t_news t_depth t_steps t_taken t_shown t_outcome t_number _ h19) yk_X8_valueAt lk_X8_122 iv_X8_valueAt ⟨rfl, rfl⟩ ⟨Nat.le_of_ble_eq_true rfl, Nat.le_of_ble_eq_true rfl⟩ hl.1 0 rfl rfl [0, 3] [1, 2, 4, 5] [4, 0, 1, 5, 2, 3] rfl rfl rfl rfl (by decide) rfl rfl rfl rfl (Nat.le_of_ble_eq_true rfl) dX8_change_129 ⟨Nat.zero_le _, Nat.zero_le _⟩ (fun H locs hW => ?_)
    refine lv_iload_n hx hb dX8_change_132 rfl (lv_at hl 4 rfl) ?_
    refine lv_if_ne (tgt := 140) hx hb dX8_change_133 (by decide) (fun c20 => ?_) (fun c20 => ?_)
    · replace hf := (if_neg c20).symm.trans hf
      refine lv_aload_n hx hb dX8_change_140 rfl (lv_at hl 1 rfl) ?_
      refine lv_iload_n hx hb dX8_change_141 rfl (lv_at hl 3 rfl) ?_
      refine lv_aload_n hx hb dX8_change_142 rfl (lv_at hl 1 rfl) ?_
      refine gs_get hC hW in_X8 0 7 rfl rfl (by decide) fl_X8_22 rfl dX8_change_143 ?_
      refine lv_iload_n hx hb dX8_change_146 rfl (lv_at hl 2 rfl) ?_
      refine lv_iconst (v := 4) hx hb dX8_change_147 (by decide) ?_
      refine lv_iadd hx hb dX8_change_148 ?_
      obtain ⟨v21, h21, hf⟩ := g_bnd hf
      refine gs_iald hC hW 1 h21 rfl dX8_change_149 ?_
      obtain ⟨o22, h22, hf⟩ := g_bnd hf
      refine gs_callVi (ws' := w_X8_change cI cZ cJ a_t a_t_now a_t_any a_t_number a_t_outAny a_t_out a_t_parameters a_t_length a_t_newLength a_t_first a_t_anew a_t_table a_t_inputs a_t_met a_t_at a_t_in a_t_back a_t_register a_t_output a_t_calls a_t_latest a_t_differ t_code t_own t_count t_tableSize t_given t_known t_news t_depth t_steps t_taken t_shown t_outcome t_now t_any t_number t_outAny t_out) hC hW (k_X8_valueAt l tA dC dI cI cZ cJ a_t a_t_number a_t_parameters a_t_length a_t_newLength a_t_first a_t_now a_t_anew a_t_table a_t_inputs a_t_met a_t_any a_t_outAny a_t_out a_t_at a_t_in a_t_back a_t_register a_t_output a_t_calls a_t_latest a_t_differ x2 v21 t_code t_own t_count t_tableSize t_given t_known t_news t_depth t_steps t_taken t_shown t_outcome t_number _ h22) yk_X8_valueAt lk_X8_122 iv_X8_valueAt ⟨rfl, rfl⟩ ⟨Nat.le_of_ble_eq_true rfl, Nat.le_of_ble_eq_true rfl⟩ hl.1 0 rfl rfl [0, 3] [1, 2, 4, 5] [4, 0, 1, 5, 2, 3] rfl rfl rfl rfl (by decide) rfl rfl rfl rfl (Nat.le_of_ble_eq_true rfl) dX8_change_150 ⟨Nat.zero_le _, Nat.zero_le _⟩ (fun H locs hW => ?_)
      obtain ⟨o23, h23, hf⟩ := g_bnd hf
      refine gs_callSi (ws' := w_X8_change cI cZ cJ a_t a_t_now a_t_any a_t_number a_t_outAny a_t_out a_t_parameters a_t_length a_t_newLength a_t_first a_t_anew a_t_table a_t_inputs a_t_met a_t_at a_t_in a_t_back a_t_register a_t_output a_t_calls a_t_latest a_t_differ t_code t_own t_count t_tableSize t_given t_known t_news t_depth t_steps t_taken t_shown t_outcome t_now t_any t_number t_outAny t_out) hC hW (k_X8_reckon l tA dC dI cI cZ cJ x3 o19 o22 _ h23) yk_X8_reckon lk_X8_137 is_X8_reckon ⟨rfl, rfl⟩ ⟨Nat.le_of_ble_eq_true rfl, Nat.le_of_ble_eq_true rfl⟩ hl.1 [] [0, 1, 2, 3, 4, 5] [0, 1, 2, 3, 4, 5] rfl rfl rfl rfl (by decide) rfl rfl rfl rfl (Nat.le_of_ble_eq_true rfl) dX8_change_153 ⟨Nat.zero_le _, Nat.zero_le _⟩ (fun H locs hW => ?_)
      refine lv_goto (tgt := 160) hx hb dX8_change_156 (by decide) ?_
      exact b_X8_change_160 hC hf hW (lv_sub hl [1, 5, 0] rfl)
    · replace hf := (if_pos c20).symm.trans hf
      refine lv_iconst (v := 0) hx hb dX8_change_136 (by decide) ?_
      refine lv_goto (tgt := 153) hx hb dX8_change_137 (by decide) ?_
      obtain ⟨o24, h24, hf⟩ := g_bnd hf
      refine gs_callSi (ws' := w_X8_change cI cZ cJ a_t a_t_now a_t_any a_t_number a_t_outAny a_t_out a_t_parameters a_t_length a_t_newLength a_t_first a_t_anew a_t_table a_t_inputs a_t_met a_t_at a_t_in a_t_back a_t_register a_t_output a_t_calls a_t_latest a_t_differ t_code t_own t_count t_tableSize t_given t_known t_news t_depth t_steps t_taken t_shown t_outcome t_now t_any t_number t_outAny t_out) hC hW (k_X8_reckon l tA dC dI cI cZ cJ x3 o19 0 _ h24) yk_X8_reckon lk_X8_137 is_X8_reckon ⟨rfl, rfl⟩ ⟨Nat.le_of_ble_eq_true rfl, Nat.le_of_ble_eq_true rfl⟩ hl.1 [] [0, 1, 2, 3, 4, 5] [0, 1, 2, 3, 4, 5] rfl rfl rfl rfl (by decide) rfl rfl rfl rfl (Nat.le_of_ble_eq_true rfl) dX8_change_153 ⟨Nat.zero_le _, Nat.zero_le _⟩ (fun H locs hW => ?_)
      refine lv_goto (tgt := 160) hx hb dX8_change_156 (by decide) ?_
      exact b_X8_change_160 hC hf hW (lv_sub hl [1, 5, 0] rfl)
def f_X8_change_2 (N : Nat) (x1 : Int32) (x2 : Int32) (t_tableSize : Int32) (t_now : Nat → Int32) (t_any : Nat → Int32) (t_number : Nat → Int32) : Nat → Int32 → (Nat → Int32) → (Nat → Int32) → Option ((Nat → Int32) × (Nat → Int32))
  | 0, _, _, _ => none
  | n + 1, x3, t_outAny, t_out => if 6 ≤ x3 then (g_rd 1152 t_now x1).bind (fun v26 => (g_rd 1152 t_now (x1 + 1)).bind (fun v27 => if 4 < v26 then if v26 = 5 then f_X8_change_236 N x1 x2 t_tableSize t_now t_any t_number v26 v27 t_outAny t_out else if v26 = 10 then f_X8_change_236 N x1 x2 t_tableSize t_now t_any t_number v26 v27 t_outAny t_out else if v26 = 11 then f_X8_change_236 N x1 x2 t_tableSize t_now t_any t_number v26 v27 t_outAny t_out else some (t_outAny, t_out) else (g_rd 1152 t_now (x1 + 3)).bind (fun v32 => (f_X8_has x2 v32 t_any).bind (fun o33 => if o33 = 0 then f_X8_change_111 N x1 x2 t_tableSize t_now t_any t_number v26 v27 0 t_outAny t_out else if v26 = 0 then f_X8_change_111 N x1 x2 t_tableSize t_now t_any t_number v26 v27 1 t_outAny t_out else (g_rd 1152 t_now (x1 + 4)).bind (fun v36 => (f_X8_has x2 v36 t_any).bind (fun o37 => if o37 = 0 then f_X8_change_111 N x1 x2 t_tableSize t_now t_any t_number v26 v27 0 t_outAny t_out else f_X8_change_111 N x1 x2 t_tableSize t_now t_any t_number v26 v27 1 t_outAny t_out)))))) else (g_rd 1224 t_any ((6 * x2) + x3)).bind (fun v39 => (g_wz 6 t_outAny x3 v39).bind (fun s40 => (g_rd 1224 t_number ((6 * x2) + x3)).bind (fun v41 => (g_wr 6 t_out x3 v41).bind (fun s42 => f_X8_change_2 N x1 x2 t_tableSize t_now t_any t_number n (x3 + 1) s40 s42))))
set_option maxHeartbeats 4000000 in
set_option maxRecDepth 100000 in
theorem b_X8_change_2 {p : Program} {l : Launch} {e : Env} {s : State} {m : MethodId} {args : Array Value} {below : List Frame} {meth : Method} {c : Code} {tA : Nat} {dC : Nat → ClassId} {dI : Nat → Nat → Nat} {cI cZ cJ : ClassId} {A : Nat → Prop} {a_t : Nat} {a_t_now : Nat} {a_t_any : Nat} {a_t_number : Nat} {a_t_outAny : Nat} {a_t_out : Nat} {a_t_parameters : Nat} {a_t_length : Nat} {a_t_newLength : Nat} {a_t_first : Nat} {a_t_anew : Nat} {a_t_table : Nat} {a_t_inputs : Nat} {a_t_met : Nat} {a_t_at : Nat} {a_t_in : Nat} {a_t_back : Nat} {a_t_register : Nat} {a_t_output : Nat} {a_t_calls : Nat} {a_t_latest : Nat} {a_t_differ : Nat} {x1 : Int32} {x2 : Int32} {t_tableSize : Int32} {t_now : Nat → Int32} {t_any : Nat → Int32} {t_number : Nat → Int32} {t_code : Int32} {t_own : Int32} {t_count : Int32} {t_given : Int32} {t_known : Int32} {t_news : Int32} {t_depth : Int32} {t_steps : Int32} {t_taken : Int32} {t_shown : Int32} {t_outcome : Int32} {N : Nat} (hC : g_C p s m meth c args cX8_change 7 (none : Option Jvm.ClassFile.FieldType) RX8) :
    ∀ (n : Nat) (x3 : Int32) (t_outAny : Nat → Int32) (t_out : Nat → Int32) (out : (Nat → Int32) × (Nat → Int32)), f_X8_change_2 N x1 x2 t_tableSize t_now t_any t_number n x3 t_outAny t_out = some out → ∀ (H : Heap) (locs : List Loc) (ls : Array Slot), g_W tA dC dI cI cZ cJ A s H locs (w_X8_change cI cZ cJ a_t a_t_now a_t_any a_t_number a_t_outAny a_t_out a_t_parameters a_t_length a_t_newLength a_t_first a_t_anew a_t_table a_t_inputs a_t_met a_t_at a_t_in a_t_back a_t_register a_t_output a_t_calls a_t_latest a_t_differ t_code t_own t_count t_tableSize t_given t_known t_news t_depth t_steps t_taken t_shown t_outcome t_now t_any t_number t_outAny t_out) → lv_has ls 7 [(0, .ref a_t), (1, .int x1), (2, .int x2), (3, .int x3)] → W p l e r_X8_change s m args below meth c H locs 0 0 (MQ below (g_Qv dC dI cI cZ cJ A (w_X8_change cI cZ cJ a_t a_t_now a_t_any a_t_number a_t_outAny a_t_out a_t_parameters a_t_length a_t_newLength a_t_first a_t_anew a_t_table a_t_inputs a_t_met a_t_at a_t_in a_t_back a_t_register a_t_output a_t_calls a_t_latest a_t_differ t_code t_own t_count t_tableSize t_given t_known t_news t_depth t_steps t_taken t_shown t_outcome t_now t_any t_number out.1 out.2)) args s 0 0 A) (F0 m 2 ls []) := by
  have hx := hC.1
  have hb := hC.2.1
  have hown := hC.2.2.2.2.1
  have hts := hC.2.2.2.2.2.1
  intro n
  induction n with
  | zero =>
    intro x3 t_outAny t_out out hf
    exact g_no hf
  | succ n ih =>
    intro x3 t_outAny t_out out hf H locs ls hW hl
    refine lv_iload_n hx hb dX8_change_2 rfl (lv_at hl 3 rfl) ?_
    refine lv_bipush (v := 6) hx hb dX8_change_3 (by decide) ?_
    refine lv_icmp_ge (tgt := 48) hx hb dX8_change_5 (by decide) (fun c25 => ?_) (fun c25 => ?_)
    · replace hf := (if_pos c25).symm.trans hf
      refine lv_aload_n hx hb dX8_change_48 rfl (lv_at hl 0 rfl) ?_
      refine gs_get hC hW in_X8 0 7 rfl rfl (by decide) fl_X8_22 rfl dX8_change_49 ?_
      refine lv_iload_n hx hb dX8_change_52 rfl (lv_at hl 1 rfl) ?_
      obtain ⟨v26, h26, hf⟩ := g_bnd hf
      refine gs_iald hC hW 1 h26 rfl dX8_change_53 ?_
      refine lv_istore_n (lv' := [(3, .int v26), (0, .ref a_t), (1, .int x1), (2, .int x2)]) hx hb dX8_change_54 rfl hl (by decide) rfl (fun ls hl => ?_)
      refine lv_aload_n hx hb dX8_change_55 rfl (lv_at hl 1 rfl) ?_
      refine gs_get hC hW in_X8 0 7 rfl rfl (by decide) fl_X8_22 rfl dX8_change_56 ?_
      refine lv_iload_n hx hb dX8_change_59 rfl (lv_at hl 2 rfl) ?_
      refine lv_iconst (v := 1) hx hb dX8_change_60 (by decide) ?_
      refine lv_iadd hx hb dX8_change_61 ?_
      obtain ⟨v27, h27, hf⟩ := g_bnd hf
      refine gs_iald hC hW 1 h27 rfl dX8_change_62 ?_
      refine lv_istore (lv' := [(4, .int v27), (3, .int v26), (0, .ref a_t), (1, .int x1), (2, .int x2)]) hx hb dX8_change_63 hl (by decide) rfl (fun ls hl => ?_)
      refine lv_iload_n hx hb dX8_change_65 rfl (lv_at hl 1 rfl) ?_
      refine lv_iconst (v := 4) hx hb dX8_change_66 (by decide) ?_
      refine lv_icmp_gt (tgt := 219) hx hb dX8_change_67 (by decide) (fun c28 => ?_) (fun c28 => ?_)
      · replace hf := (if_pos c28).symm.trans hf
        refine lv_iload_n hx hb dX8_change_219 rfl (lv_at hl 1 rfl) ?_
        refine lv_iconst (v := 5) hx hb dX8_change_220 (by decide) ?_
        refine lv_icmp_eq (tgt := 236) hx hb dX8_change_221 (by decide) (fun c29 => ?_) (fun c29 => ?_)
        · replace hf := (if_pos c29).symm.trans hf
          exact b_X8_change_236 hC hf hW (lv_sub hl [2, 1, 0] rfl)
        · replace hf := (if_neg c29).symm.trans hf
          refine lv_iload_n hx hb dX8_change_224 rfl (lv_at hl 1 rfl) ?_
          refine lv_bipush (v := 10) hx hb dX8_change_225 (by decide) ?_
          refine lv_icmp_eq (tgt := 236) hx hb dX8_change_227 (by decide) (fun c30 => ?_) (fun c30 => ?_)
          · replace hf := (if_pos c30).symm.trans hf
            exact b_X8_change_236 hC hf hW (lv_sub hl [2, 1, 0] rfl)
          · replace hf := (if_neg c30).symm.trans hf
            refine lv_iload_n hx hb dX8_change_230 rfl (lv_at hl 1 rfl) ?_
            refine lv_bipush (v := 11) hx hb dX8_change_231 (by decide) ?_
            refine lv_icmp_ne (tgt := 269) hx hb dX8_change_233 (by decide) (fun c31 => ?_) (fun c31 => ?_)
            · replace hf := (if_neg c31).symm.trans hf
              obtain rfl := Option.some.inj hf
              exact gs_rv hC hW rfl dX8_change_269
            · replace hf := (if_pos c31).symm.trans hf
              exact b_X8_change_236 hC hf hW (lv_sub hl [2, 1, 0] rfl)
      · replace hf := (if_neg c28).symm.trans hf
        refine lv_aload_n hx hb dX8_change_70 rfl (lv_at hl 2 rfl) ?_
        refine lv_iload_n hx hb dX8_change_71 rfl (lv_at hl 4 rfl) ?_
        refine lv_aload_n hx hb dX8_change_72 rfl (lv_at hl 2 rfl) ?_
        refine gs_get hC hW in_X8 0 7 rfl rfl (by decide) fl_X8_22 rfl dX8_change_73 ?_
        refine lv_iload_n hx hb dX8_change_76 rfl (lv_at hl 3 rfl) ?_
        refine lv_iconst (v := 3) hx hb dX8_change_77 (by decide) ?_
        refine lv_iadd hx hb dX8_change_78 ?_
        obtain ⟨v32, h32, hf⟩ := g_bnd hf
        refine gs_iald hC hW 1 h32 rfl dX8_change_79 ?_
        obtain ⟨o33, h33, hf⟩ := g_bnd hf
        refine gs_callVi (ws' := w_X8_change cI cZ cJ a_t a_t_now a_t_any a_t_number a_t_outAny a_t_out a_t_parameters a_t_length a_t_newLength a_t_first a_t_anew a_t_table a_t_inputs a_t_met a_t_at a_t_in a_t_back a_t_register a_t_output a_t_calls a_t_latest a_t_differ t_code t_own t_count t_tableSize t_given t_known t_news t_depth t_steps t_taken t_shown t_outcome t_now t_any t_number t_outAny t_out) hC hW (k_X8_has l tA dC dI cI cZ cJ a_t a_t_any a_t_parameters a_t_length a_t_newLength a_t_first a_t_now a_t_anew a_t_table a_t_inputs a_t_met a_t_number a_t_outAny a_t_out a_t_at a_t_in a_t_back a_t_register a_t_output a_t_calls a_t_latest a_t_differ x2 v32 t_code t_own t_count t_tableSize t_given t_known t_news t_depth t_steps t_taken t_shown t_outcome t_any _ h33) yk_X8_has lk_X8_118 iv_X8_has ⟨rfl, rfl⟩ ⟨Nat.le_of_ble_eq_true rfl, Nat.le_of_ble_eq_true rfl⟩ hl.1 0 rfl rfl [0, 2] [1, 3, 4, 5] [4, 0, 5, 1, 2, 3] rfl rfl rfl rfl (by decide) rfl rfl rfl rfl (Nat.le_of_ble_eq_true rfl) dX8_change_80 ⟨Nat.zero_le _, Nat.zero_le _⟩ (fun H locs hW => ?_)
        refine lv_if_eq (tgt := 110) hx hb dX8_change_83 (by decide) (fun c34 => ?_) (fun c34 => ?_)
        · replace hf := (if_pos c34).symm.trans hf
          refine lv_iconst (v := 0) hx hb dX8_change_110 (by decide) ?_
          exact b_X8_change_111 hC hf hW (lv_sub hl [2, 3, 4, 1, 0] rfl)
        · replace hf := (if_neg c34).symm.trans hf
          refine lv_iload_n hx hb dX8_change_86 rfl (lv_at hl 1 rfl) ?_
          refine lv_if_eq (tgt := 106) hx hb dX8_change_87 (by decide) (fun c35 => ?_) (fun c35 => ?_)
          · replace hf := (if_pos c35).symm.trans hf
            refine lv_iconst (v := 1) hx hb dX8_change_106 (by decide) ?_
            refine lv_goto (tgt := 111) hx hb dX8_change_107 (by decide) ?_
            exact b_X8_change_111 hC hf hW (lv_sub hl [2, 3, 4, 1, 0] rfl)
          · replace hf := (if_neg c35).symm.trans hf
            refine lv_aload_n hx hb dX8_change_90 rfl (lv_at hl 2 rfl) ?_
            refine lv_iload_n hx hb dX8_change_91 rfl (lv_at hl 4 rfl) ?_
            refine lv_aload_n hx hb dX8_change_92 rfl (lv_at hl 2 rfl) ?_
            refine gs_get hC hW in_X8 0 7 rfl rfl (by decide) fl_X8_22 rfl dX8_change_93 ?_
            refine lv_iload_n hx hb dX8_change_96 rfl (lv_at hl 3 rfl) ?_
            refine lv_iconst (v := 4) hx hb dX8_change_97 (by decide) ?_
            refine lv_iadd hx hb dX8_change_98 ?_
            obtain ⟨v36, h36, hf⟩ := g_bnd hf
            refine gs_iald hC hW 1 h36 rfl dX8_change_99 ?_
            obtain ⟨o37, h37, hf⟩ := g_bnd hf
            refine gs_callVi (ws' := w_X8_change cI cZ cJ a_t a_t_now a_t_any a_t_number a_t_outAny a_t_out a_t_parameters a_t_length a_t_newLength a_t_first a_t_anew a_t_table a_t_inputs a_t_met a_t_at a_t_in a_t_back a_t_register a_t_output a_t_calls a_t_latest a_t_differ t_code t_own t_count t_tableSize t_given t_known t_news t_depth t_steps t_taken t_shown t_outcome t_now t_any t_number t_outAny t_out) hC hW (k_X8_has l tA dC dI cI cZ cJ a_t a_t_any a_t_parameters a_t_length a_t_newLength a_t_first a_t_now a_t_anew a_t_table a_t_inputs a_t_met a_t_number a_t_outAny a_t_out a_t_at a_t_in a_t_back a_t_register a_t_output a_t_calls a_t_latest a_t_differ x2 v36 t_code t_own t_count t_tableSize t_given t_known t_news t_depth t_steps t_taken t_shown t_outcome t_any _ h37) yk_X8_has lk_X8_118 iv_X8_has ⟨rfl, rfl⟩ ⟨Nat.le_of_ble_eq_true rfl, Nat.le_of_ble_eq_true rfl⟩ hl.1 0 rfl rfl [0, 2] [1, 3, 4, 5] [4, 0, 5, 1, 2, 3] rfl rfl rfl rfl (by decide) rfl rfl rfl rfl (Nat.le_of_ble_eq_true rfl) dX8_change_100 ⟨Nat.zero_le _, Nat.zero_le _⟩ (fun H locs hW => ?_)
            refine lv_if_eq (tgt := 110) hx hb dX8_change_103 (by decide) (fun c38 => ?_) (fun c38 => ?_)
            · replace hf := (if_pos c38).symm.trans hf
              refine lv_iconst (v := 0) hx hb dX8_change_110 (by decide) ?_
              exact b_X8_change_111 hC hf hW (lv_sub hl [2, 3, 4, 1, 0] rfl)
            · replace hf := (if_neg c38).symm.trans hf
              refine lv_iconst (v := 1) hx hb dX8_change_106 (by decide) ?_
              refine lv_goto (tgt := 111) hx hb dX8_change_107 (by decide) ?_
              exact b_X8_change_111 hC hf hW (lv_sub hl [2, 3, 4, 1, 0] rfl)
    · replace hf := (if_neg c25).symm.trans hf
      refine lv_aload_n hx hb dX8_change_8 rfl (lv_at hl 0 rfl) ?_
      refine gs_get hC hW in_X8 0 18 rfl rfl (by decide) fl_X8_44 rfl dX8_change_9 ?_
      refine lv_iload_n hx hb dX8_change_12 rfl (lv_at hl 3 rfl) ?_
      refine lv_aload_n hx hb dX8_change_13 rfl (lv_at hl 0 rfl) ?_
      refine gs_get hC hW in_X8 0 15 rfl rfl (by decide) fl_X8_38 rfl dX8_change_14 ?_
      refine lv_bipush (v := 6) hx hb dX8_change_17 (by decide) ?_
      refine lv_iload_n hx hb dX8_change_19 rfl (lv_at hl 2 rfl) ?_
      refine lv_imul hx hb dX8_change_20 ?_
      refine lv_iload_n hx hb dX8_change_21 rfl (lv_at hl 3 rfl) ?_
      refine lv_iadd hx hb dX8_change_22 ?_
      obtain ⟨v39, h39, hf⟩ := g_bnd hf
      refine gs_zald hC hW 2 h39 rfl dX8_change_23 ?_
      obtain ⟨s40, h40, hf⟩ := g_bnd hf
      refine gs_zast (ws' := w_X8_change cI cZ cJ a_t a_t_now a_t_any a_t_number a_t_outAny a_t_out a_t_parameters a_t_length a_t_newLength a_t_first a_t_anew a_t_table a_t_inputs a_t_met a_t_at a_t_in a_t_back a_t_register a_t_output a_t_calls a_t_latest a_t_differ t_code t_own t_count t_tableSize t_given t_known t_news t_depth t_steps t_taken t_shown t_outcome t_now t_any t_number s40 t_out) hC hW 4 h40 rfl rfl dX8_change_24 (fun H locs hW => ?_)
      refine lv_aload_n hx hb dX8_change_25 rfl (lv_at hl 0 rfl) ?_
      refine gs_get hC hW in_X8 0 19 rfl rfl (by decide) fl_X8_47 rfl dX8_change_26 ?_
      refine lv_iload_n hx hb dX8_change_29 rfl (lv_at hl 3 rfl) ?_
      refine lv_aload_n hx hb dX8_change_30 rfl (lv_at hl 0 rfl) ?_
      refine gs_get hC hW in_X8 0 16 rfl rfl (by decide) fl_X8_41 rfl dX8_change_31 ?_
      refine lv_bipush (v := 6) hx hb dX8_change_34 (by decide) ?_
      refine lv_iload_n hx hb dX8_change_36 rfl (lv_at hl 2 rfl) ?_
      refine lv_imul hx hb dX8_change_37 ?_
      refine lv_iload_n hx hb dX8_change_38 rfl (lv_at hl 3 rfl) ?_
      refine lv_iadd hx hb dX8_change_39 ?_
      obtain ⟨v41, h41, hf⟩ := g_bnd hf
      refine gs_iald hC hW 3 h41 rfl dX8_change_40 ?_
      obtain ⟨s42, h42, hf⟩ := g_bnd hf
      refine gs_iast (ws' := w_X8_change cI cZ cJ a_t a_t_now a_t_any a_t_number a_t_outAny a_t_out a_t_parameters a_t_length a_t_newLength a_t_first a_t_anew a_t_table a_t_inputs a_t_met a_t_at a_t_in a_t_back a_t_register a_t_output a_t_calls a_t_latest a_t_differ t_code t_own t_count t_tableSize t_given t_known t_news t_depth t_steps t_taken t_shown t_outcome t_now t_any t_number s40 s42) hC hW 5 h42 rfl rfl dX8_change_41 (fun H locs hW => ?_)
      refine lv_iinc (v := x3 + 1) (lv' := [(3, .int (x3 + 1)), (0, .ref a_t), (1, .int x1), (2, .int x2)]) hx hb dX8_change_42 hl (k := 3) rfl rfl (by decide) rfl (fun ls hl => ?_)
      refine lv_goto (tgt := 2) hx hb dX8_change_45 (by decide) ?_
      exact ih _ _ _ _ hf _ _ _ hW (lv_sub hl [1, 2, 3, 0] rfl)
def f_X8_change (N : Nat) (x1 : Int32) (x2 : Int32) (t_tableSize : Int32) (t_now : Nat → Int32) (t_any : Nat → Int32) (t_number : Nat → Int32) (t_outAny : Nat → Int32) (t_out : Nat → Int32) : Option ((Nat → Int32) × (Nat → Int32)) := f_X8_change_2 N x1 x2 t_tableSize t_now t_any t_number N 0 t_outAny t_out
set_option maxHeartbeats 4000000 in
set_option maxRecDepth 100000 in
theorem k_X8_change (l : Launch) (tA : Nat) (dC : Nat → ClassId) (dI : Nat → Nat → Nat) (cI cZ cJ : ClassId) (a_t : Nat) (a_t_now : Nat) (a_t_any : Nat) (a_t_number : Nat) (a_t_outAny : Nat) (a_t_out : Nat) (a_t_parameters : Nat) (a_t_length : Nat) (a_t_newLength : Nat) (a_t_first : Nat) (a_t_anew : Nat) (a_t_table : Nat) (a_t_inputs : Nat) (a_t_met : Nat) (a_t_at : Nat) (a_t_in : Nat) (a_t_back : Nat) (a_t_register : Nat) (a_t_output : Nat) (a_t_calls : Nat) (a_t_latest : Nat) (a_t_differ : Nat) (N : Nat) (x1 : Int32) (x2 : Int32) (t_code : Int32) (t_own : Int32) (t_count : Int32) (t_tableSize : Int32) (t_given : Int32) (t_known : Int32) (t_news : Int32) (t_depth : Int32) (t_steps : Int32) (t_taken : Int32) (t_shown : Int32) (t_outcome : Int32) (t_now : Nat → Int32) (t_any : Nat → Int32) (t_number : Nat → Int32) (t_outAny : Nat → Int32) (t_out : Nat → Int32) (out : (Nat → Int32) × (Nat → Int32)) (hf : f_X8_change N x1 x2 t_tableSize t_now t_any t_number t_outAny t_out = some out) : g_Mv l yX8_change cX8_change 7 (none : Option Jvm.ClassFile.FieldType) r_X8_change tA dC dI cI cZ cJ [.ref a_t, .int x1, .int x2] (w_X8_change cI cZ cJ a_t a_t_now a_t_any a_t_number a_t_outAny a_t_out a_t_parameters a_t_length a_t_newLength a_t_first a_t_anew a_t_table a_t_inputs a_t_met a_t_at a_t_in a_t_back a_t_register a_t_output a_t_calls a_t_latest a_t_differ t_code t_own t_count t_tableSize t_given t_known t_news t_depth t_steps t_taken t_shown t_outcome t_now t_any t_number t_outAny t_out) (w_X8_change cI cZ cJ a_t a_t_now a_t_any a_t_number a_t_outAny a_t_out a_t_parameters a_t_length a_t_newLength a_t_first a_t_anew a_t_table a_t_inputs a_t_met a_t_at a_t_in a_t_back a_t_register a_t_output a_t_calls a_t_latest a_t_differ t_code t_own t_count t_tableSize t_given t_known t_news t_depth t_steps t_taken t_shown t_outcome t_now t_any t_number out.1 out.2) := by
  unfold f_X8_change at hf
  refine ge_v (by decide) (Nat.le_of_ble_eq_true rfl) (fun p e s m below meth c A H locs ls hC hW hl => ?_)
  have hC : g_C p s m meth c _ cX8_change 7 (none : Option Jvm.ClassFile.FieldType) RX8 := hC
  have hx := hC.1
  have hb := hC.2.1
  have hown := hC.2.2.2.2.1
  have hts := hC.2.2.2.2.2.1
  have hl : lv_has ls 7 [(0, .ref a_t), (1, .int x1), (2, .int x2)] := hl
  refine lv_iconst (v := 0) hx hb dX8_change_0 (by decide) ?_
  refine lv_istore_n (lv' := [(3, .int 0), (0, .ref a_t), (1, .int x1), (2, .int x2)]) hx hb dX8_change_1 rfl hl (by decide) rfl (fun ls hl => ?_)
  exact b_X8_change_2 hC N _ _ _ _ hf _ _ _ hW (lv_sub hl [1, 2, 3, 0] rfl)

abbrev w_X8_spread (cI cZ cJ : ClassId) (a_t : Nat) (a_t_parameters : Nat) (a_t_length : Nat) (a_t_now : Nat) (a_t_table : Nat) (a_t_met : Nat) (a_t_any : Nat) (a_t_number : Nat) (a_t_outAny : Nat) (a_t_out : Nat) (a_t_newLength : Nat) (a_t_first : Nat) (a_t_anew : Nat) (a_t_inputs : Nat) (a_t_at : Nat) (a_t_in : Nat) (a_t_back : Nat) (a_t_register : Nat) (a_t_output : Nat) (a_t_calls : Nat) (a_t_latest : Nat) (a_t_differ : Nat) (t_code : Int32) (t_own : Int32) (t_count : Int32) (t_tableSize : Int32) (t_given : Int32) (t_known : Int32) (t_news : Int32) (t_depth : Int32) (t_steps : Int32) (t_taken : Int32) (t_shown : Int32) (t_outcome : Int32) (t_parameters : Nat → Int32) (t_length : Nat → Int32) (t_now : Nat → Int32) (t_table : Nat → Int32) (t_met : Nat → Int32) (t_any : Nat → Int32) (t_number : Nat → Int32) (t_outAny : Nat → Int32) (t_out : Nat → Int32) : va_W := [(a_t, .inr (8, [.int t_code, .int t_own, .int t_count, .ref a_t_parameters, .ref a_t_length, .ref a_t_newLength, .ref a_t_first, .ref a_t_now, .ref a_t_anew, .int t_tableSize, .ref a_t_table, .int t_given, .ref a_t_inputs, .int t_known, .ref a_t_met, .ref a_t_any, .ref a_t_number, .int t_news, .ref a_t_outAny, .ref a_t_out, .int t_depth, .int t_steps, .int t_taken, .int t_shown, .ref a_t_at, .ref a_t_in, .ref a_t_back, .ref a_t_register, .ref a_t_output, .ref a_t_calls, .ref a_t_latest, .ref a_t_differ, .int t_outcome])), (a_t_parameters, .inl (cI, 12, .inl t_parameters)), (a_t_length, .inl (cI, 12, .inl t_length)), (a_t_now, .inl (cI, 1152, .inl t_now)), (a_t_table, .inl (cI, 4, .inl t_table)), (a_t_met, .inl (cZ, 204, .inl t_met)), (a_t_any, .inl (cZ, 1224, .inl t_any)), (a_t_number, .inl (cI, 1224, .inl t_number)), (a_t_outAny, .inl (cZ, 6, .inl t_outAny)), (a_t_out, .inl (cI, 6, .inl t_out))]
abbrev r_X8_spread : Room := { frames := 4, cells := 0, slots := 0, locals := 91 }
def f_X8_spread_171 (N : Nat) (x1 : Int32) (x2 : Int32) (t_tableSize : Int32) (t_parameters : Nat → Int32) (t_length : Nat → Int32) (t_now : Nat → Int32) (t_table : Nat → Int32) (x4 : Int32) (x6 : Int32) (x7 : Int32) (t_news : Int32) (t_met : Nat → Int32) (t_any : Nat → Int32) (t_number : Nat → Int32) (t_outAny : Nat → Int32) (t_out : Nat → Int32) : Option (Int32 × (Nat → Int32) × (Nat → Int32) × (Nat → Int32) × (Nat → Int32) × (Nat → Int32)) := if x6 = 0 then if x7 = 0 then some (t_news, t_met, t_any, t_number, t_outAny, t_out) else (f_X8_come N x1 (x2 + 1) t_news t_length t_met t_any t_number t_outAny t_out).bind (fun o3 => some (o3.1, o3.2.1, o3.2.2.1, o3.2.2.2, t_outAny, t_out)) else (g_rd 1152 t_now (x4 + 2)).bind (fun v4 => (f_X8_come N x1 v4 t_news t_length t_met t_any t_number t_outAny t_out).bind (fun o5 => if x7 = 0 then some (o5.1, o5.2.1, o5.2.2.1, o5.2.2.2, t_outAny, t_out) else (f_X8_come N x1 (x2 + 1) o5.1 t_length o5.2.1 o5.2.2.1 o5.2.2.2 t_outAny t_out).bind (fun o7 => some (o7.1, o7.2.1, o7.2.2.1, o7.2.2.2, t_outAny, t_out))))
set_option maxHeartbeats 4000000 in
set_option maxRecDepth 100000 in
theorem b_X8_spread_171 {p : Program} {l : Launch} {e : Env} {s : State} {m : MethodId} {args : Array Value} {below : List Frame} {meth : Method} {c : Code} {tA : Nat} {dC : Nat → ClassId} {dI : Nat → Nat → Nat} {cI cZ cJ : ClassId} {A : Nat → Prop} {a_t : Nat} {a_t_parameters : Nat} {a_t_length : Nat} {a_t_now : Nat} {a_t_table : Nat} {a_t_met : Nat} {a_t_any : Nat} {a_t_number : Nat} {a_t_outAny : Nat} {a_t_out : Nat} {a_t_newLength : Nat} {a_t_first : Nat} {a_t_anew : Nat} {a_t_inputs : Nat} {a_t_at : Nat} {a_t_in : Nat} {a_t_back : Nat} {a_t_register : Nat} {a_t_output : Nat} {a_t_calls : Nat} {a_t_latest : Nat} {a_t_differ : Nat} {x1 : Int32} {x2 : Int32} {t_tableSize : Int32} {t_parameters : Nat → Int32} {t_length : Nat → Int32} {t_now : Nat → Int32} {t_table : Nat → Int32} {t_code : Int32} {t_own : Int32} {t_count : Int32} {t_given : Int32} {t_known : Int32} {t_depth : Int32} {t_steps : Int32} {t_taken : Int32} {t_shown : Int32} {t_outcome : Int32} {N : Nat} {x4 : Int32} {x6 : Int32} {x7 : Int32} {t_news : Int32} {t_met : Nat → Int32} {t_any : Nat → Int32} {t_number : Nat → Int32} {t_outAny : Nat → Int32} {t_out : Nat → Int32} {out : Int32 × (Nat → Int32) × (Nat → Int32) × (Nat → Int32) × (Nat → Int32) × (Nat → Int32)} (hC : g_C p s m meth c args cX8_spread 10 (none : Option Jvm.ClassFile.FieldType) RX8) (hf : f_X8_spread_171 N x1 x2 t_tableSize t_parameters t_length t_now t_table x4 x6 x7 t_news t_met t_any t_number t_outAny t_out = some out) {H : Heap} {locs : List Loc} {ls : Array Slot} (hW : g_W tA dC dI cI cZ cJ A s H locs (w_X8_spread cI cZ cJ a_t a_t_parameters a_t_length a_t_now a_t_table a_t_met a_t_any a_t_number a_t_outAny a_t_out a_t_newLength a_t_first a_t_anew a_t_inputs a_t_at a_t_in a_t_back a_t_register a_t_output a_t_calls a_t_latest a_t_differ t_code t_own t_count t_tableSize t_given t_known t_news t_depth t_steps t_taken t_shown t_outcome t_parameters t_length t_now t_table t_met t_any t_number t_outAny t_out)) (hl : lv_has ls 10 [(0, .ref a_t), (1, .int x1), (2, .int x2), (4, .int x4), (6, .int x6), (7, .int x7)]) : W p l e r_X8_spread s m args below meth c H locs 0 0 (MQ below (g_Qv dC dI cI cZ cJ A (w_X8_spread cI cZ cJ a_t a_t_parameters a_t_length a_t_now a_t_table a_t_met a_t_any a_t_number a_t_outAny a_t_out a_t_newLength a_t_first a_t_anew a_t_inputs a_t_at a_t_in a_t_back a_t_register a_t_output a_t_calls a_t_latest a_t_differ t_code t_own t_count t_tableSize t_given t_known out.1 t_depth t_steps t_taken t_shown t_outcome t_parameters t_length t_now t_table out.2.1 out.2.2.1 out.2.2.2.1 out.2.2.2.2.1 out.2.2.2.2.2)) args s 0 0 A) (F0 m 171 ls []) := by
  have hx := hC.1
  have hb := hC.2.1
  have hown := hC.2.2.2.2.1
  have hts := hC.2.2.2.2.2.1
  unfold f_X8_spread_171 at hf
  refine lv_iload hx hb dX8_spread_171 (lv_at hl 4 rfl) ?_
  refine lv_if_eq (tgt := 190) hx hb dX8_spread_173 (by decide) (fun c1 => ?_) (fun c1 => ?_)
  · replace hf := (if_pos c1).symm.trans hf
    refine lv_iload hx hb dX8_spread_190 (lv_at hl 5 rfl) ?_
    refine lv_if_eq (tgt := 203) hx hb dX8_spread_192 (by decide) (fun c2 => ?_) (fun c2 => ?_)
    · replace hf := (if_pos c2).symm.trans hf
      obtain rfl := Option.some.inj hf
      exact gs_rv hC hW rfl dX8_spread_203
    · replace hf := (if_neg c2).symm.trans hf
      refine lv_aload_n hx hb dX8_spread_195 rfl (lv_at hl 0 rfl) ?_
      refine lv_iload_n hx hb dX8_spread_196 rfl (lv_at hl 1 rfl) ?_
      refine lv_iload_n hx hb dX8_spread_197 rfl (lv_at hl 2 rfl) ?_
      refine lv_iconst (v := 1) hx hb dX8_spread_198 (by decide) ?_
      refine lv_iadd hx hb dX8_spread_199 ?_
      obtain ⟨o3, h3, hf⟩ := g_bnd hf
      refine gs_callVv (ws' := w_X8_spread cI cZ cJ a_t a_t_parameters a_t_length a_t_now a_t_table a_t_met a_t_any a_t_number a_t_outAny a_t_out a_t_newLength a_t_first a_t_anew a_t_inputs a_t_at a_t_in a_t_back a_t_register a_t_output a_t_calls a_t_latest a_t_differ t_code t_own t_count t_tableSize t_given t_known o3.1 t_depth t_steps t_taken t_shown t_outcome t_parameters t_length t_now t_table o3.2.1 o3.2.2.1 o3.2.2.2 t_outAny t_out) hC hW (k_X8_come l tA dC dI cI cZ cJ a_t a_t_length a_t_met a_t_any a_t_number a_t_outAny a_t_out a_t_parameters a_t_newLength a_t_first a_t_now a_t_anew a_t_table a_t_inputs a_t_at a_t_in a_t_back a_t_register a_t_output a_t_calls a_t_latest a_t_differ N x1 (x2 + 1) t_code t_own t_count t_tableSize t_given t_known t_news t_depth t_steps t_taken t_shown t_outcome t_length t_met t_any t_number t_outAny t_out _ h3) yk_X8_come lk_X8_126 iv_X8_come ⟨rfl, rfl⟩ ⟨Nat.le_of_ble_eq_true rfl, Nat.le_of_ble_eq_true rfl⟩ hl.1 0 rfl rfl [0, 2, 5, 6, 7, 8, 9] [1, 3, 4] [3, 0, 4, 1, 2, 5, 6, 7, 8, 9] rfl rfl rfl rfl (by decide) rfl rfl rfl rfl (Nat.le_of_ble_eq_true rfl) dX8_spread_200 ⟨Nat.zero_le _, Nat.zero_le _⟩ (fun H locs hW => ?_)
      obtain rfl := Option.some.inj hf
      exact gs_rv hC hW rfl dX8_spread_203
  · replace hf := (if_neg c1).symm.trans hf
    refine lv_aload_n hx hb dX8_spread_176 rfl (lv_at hl 0 rfl) ?_
    refine lv_iload_n hx hb dX8_spread_177 rfl (lv_at hl 1 rfl) ?_
    refine lv_aload_n hx hb dX8_spread_178 rfl (lv_at hl 0 rfl) ?_
    refine gs_get hC hW in_X8 0 7 rfl rfl (by decide) fl_X8_22 rfl dX8_spread_179 ?_
    refine lv_iload hx hb dX8_spread_182 (lv_at hl 3 rfl) ?_
    refine lv_iconst (v := 2) hx hb dX8_spread_184 (by decide) ?_
    refine lv_iadd hx hb dX8_spread_185 ?_
    obtain ⟨v4, h4, hf⟩ := g_bnd hf
    refine gs_iald hC hW 3 h4 rfl dX8_spread_186 ?_
    obtain ⟨o5, h5, hf⟩ := g_bnd hf
    refine gs_callVv (ws' := w_X8_spread cI cZ cJ a_t a_t_parameters a_t_length a_t_now a_t_table a_t_met a_t_any a_t_number a_t_outAny a_t_out a_t_newLength a_t_first a_t_anew a_t_inputs a_t_at a_t_in a_t_back a_t_register a_t_output a_t_calls a_t_latest a_t_differ t_code t_own t_count t_tableSize t_given t_known o5.1 t_depth t_steps t_taken t_shown t_outcome t_parameters t_length t_now t_table o5.2.1 o5.2.2.1 o5.2.2.2 t_outAny t_out) hC hW (k_X8_come l tA dC dI cI cZ cJ a_t a_t_length a_t_met a_t_any a_t_number a_t_outAny a_t_out a_t_parameters a_t_newLength a_t_first a_t_now a_t_anew a_t_table a_t_inputs a_t_at a_t_in a_t_back a_t_register a_t_output a_t_calls a_t_latest a_t_differ N x1 v4 t_code t_own t_count t_tableSize t_given t_known t_news t_depth t_steps t_taken t_shown t_outcome t_length t_met t_any t_number t_outAny t_out _ h5) yk_X8_come lk_X8_126 iv_X8_come ⟨rfl, rfl⟩ ⟨Nat.le_of_ble_eq_true rfl, Nat.le_of_ble_eq_true rfl⟩ hl.1 0 rfl rfl [0, 2, 5, 6, 7, 8, 9] [1, 3, 4] [3, 0, 4, 1, 2, 5, 6, 7, 8, 9] rfl rfl rfl rfl (by decide) rfl rfl rfl rfl (Nat.le_of_ble_eq_true rfl) dX8_spread_187 ⟨Nat.zero_le _, Nat.zero_le _⟩ (fun H locs hW => ?_)
    refine lv_iload hx hb dX8_spread_190 (lv_at hl 5 rfl) ?_
    refine lv_if_eq (tgt := 203) hx hb dX8_spread_192 (by decide) (fun c6 => ?_) (fun c6 => ?_)
    · replace hf := (if_pos c6).symm.trans hf
      obtain rfl := Option.some.inj hf
      exact gs_rv hC hW rfl dX8_spread_203
    · replace hf := (if_neg c6).symm.trans hf
      refine lv_aload_n hx hb dX8_spread_195 rfl (lv_at hl 0 rfl) ?_
      refine lv_iload_n hx hb dX8_spread_196 rfl (lv_at hl 1 rfl) ?_
      refine lv_iload_n hx hb dX8_spread_197 rfl (lv_at hl 2 rfl) ?_
      refine lv_iconst (v := 1) hx hb dX8_spread_198 (by decide) ?_
      refine lv_iadd hx hb dX8_spread_199 ?_
      obtain ⟨o7, h7, hf⟩ := g_bnd hf
      refine gs_callVv (ws' := w_X8_spread cI cZ cJ a_t a_t_parameters a_t_length a_t_now a_t_table a_t_met a_t_any a_t_number a_t_outAny a_t_out a_t_newLength a_t_first a_t_anew a_t_inputs a_t_at a_t_in a_t_back a_t_register a_t_output a_t_calls a_t_latest a_t_differ t_code t_own t_count t_tableSize t_given t_known o7.1 t_depth t_steps t_taken t_shown t_outcome t_parameters t_length t_now t_table o7.2.1 o7.2.2.1 o7.2.2.2 t_outAny t_out) hC hW (k_X8_come l tA dC dI cI cZ cJ a_t a_t_length a_t_met a_t_any a_t_number a_t_outAny a_t_out a_t_parameters a_t_newLength a_t_first a_t_now a_t_anew a_t_table a_t_inputs a_t_at a_t_in a_t_back a_t_register a_t_output a_t_calls a_t_latest a_t_differ N x1 (x2 + 1) t_code t_own t_count t_tableSize t_given t_known o5.1 t_depth t_steps t_taken t_shown t_outcome t_length o5.2.1 o5.2.2.1 o5.2.2.2 t_outAny t_out _ h7) yk_X8_come lk_X8_126 iv_X8_come ⟨rfl, rfl⟩ ⟨Nat.le_of_ble_eq_true rfl, Nat.le_of_ble_eq_true rfl⟩ hl.1 0 rfl rfl [0, 2, 5, 6, 7, 8, 9] [1, 3, 4] [3, 0, 4, 1, 2, 5, 6, 7, 8, 9] rfl rfl rfl rfl (by decide) rfl rfl rfl rfl (Nat.le_of_ble_eq_true rfl) dX8_spread_200 ⟨Nat.zero_le _, Nat.zero_le _⟩ (fun H locs hW => ?_)
      obtain rfl := Option.some.inj hf
      exact gs_rv hC hW rfl dX8_spread_203
def f_X8_spread_140 (N : Nat) (x1 : Int32) (x2 : Int32) (t_tableSize : Int32) (t_parameters : Nat → Int32) (t_length : Nat → Int32) (t_now : Nat → Int32) (t_table : Nat → Int32) (x4 : Int32) (x8 : Int32) (z0 : Int32) (t_news : Int32) (t_met : Nat → Int32) (t_any : Nat → Int32) (t_number : Nat → Int32) (t_outAny : Nat → Int32) (t_out : Nat → Int32) : Option (Int32 × (Nat → Int32) × (Nat → Int32) × (Nat → Int32) × (Nat → Int32) × (Nat → Int32)) := if x8 = 0 then if z0 = 0 then f_X8_spread_171 N x1 x2 t_tableSize t_parameters t_length t_now t_table x4 1 1 t_news t_met t_any t_number t_outAny t_out else f_X8_spread_171 N x1 x2 t_tableSize t_parameters t_length t_now t_table x4 1 0 t_news t_met t_any t_number t_outAny t_out else if z0 = 0 then if z0 = 0 then f_X8_spread_171 N x1 x2 t_tableSize t_parameters t_length t_now t_table x4 0 1 t_news t_met t_any t_number t_outAny t_out else f_X8_spread_171 N x1 x2 t_tableSize t_parameters t_length t_now t_table x4 0 0 t_news t_met t_any t_number t_outAny t_out else if z0 = 0 then f_X8_spread_171 N x1 x2 t_tableSize t_parameters t_length t_now t_table x4 1 1 t_news t_met t_any t_number t_outAny t_out else f_X8_spread_171 N x1 x2 t_tableSize t_parameters t_length t_now t_table x4 1 0 t_news t_met t_any t_number t_outAny t_out
set_option maxHeartbeats 4000000 in
set_option maxRecDepth 100000 in
theorem b_X8_spread_140 {p : Program} {l : Launch} {e : Env} {s : State} {m : MethodId} {args : Array Value} {below : List Frame} {meth : Method} {c : Code} {tA : Nat} {dC : Nat → ClassId} {dI : Nat → Nat → Nat} {cI cZ cJ : ClassId} {A : Nat → Prop} {a_t : Nat} {a_t_parameters : Nat} {a_t_length : Nat} {a_t_now : Nat} {a_t_table : Nat} {a_t_met : Nat} {a_t_any : Nat} {a_t_number : Nat} {a_t_outAny : Nat} {a_t_out : Nat} {a_t_newLength : Nat} {a_t_first : Nat} {a_t_anew : Nat} {a_t_inputs : Nat} {a_t_at : Nat} {a_t_in : Nat} {a_t_back : Nat} {a_t_register : Nat} {a_t_output : Nat} {a_t_calls : Nat} {a_t_latest : Nat} {a_t_differ : Nat} {x1 : Int32} {x2 : Int32} {t_tableSize : Int32} {t_parameters : Nat → Int32} {t_length : Nat → Int32} {t_now : Nat → Int32} {t_table : Nat → Int32} {t_code : Int32} {t_own : Int32} {t_count : Int32} {t_given : Int32} {t_known : Int32} {t_depth : Int32} {t_steps : Int32} {t_taken : Int32} {t_shown : Int32} {t_outcome : Int32} {N : Nat} {x4 : Int32} {x8 : Int32} {z0 : Int32} {t_news : Int32} {t_met : Nat → Int32} {t_any : Nat → Int32} {t_number : Nat → Int32} {t_outAny : Nat → Int32} {t_out : Nat → Int32} {out : Int32 × (Nat → Int32) × (Nat → Int32) × (Nat → Int32) × (Nat → Int32) × (Nat → Int32)} (hC : g_C p s m meth c args cX8_spread 10 (none : Option Jvm.ClassFile.FieldType) RX8) (hf : f_X8_spread_140 N x1 x2 t_tableSize t_parameters t_length t_now t_table x4 x8 z0 t_news t_met t_any t_number t_outAny t_out = some out) {H : Heap} {locs : List Loc} {ls : Array Slot} (hW : g_W tA dC dI cI cZ cJ A s H locs (w_X8_spread cI cZ cJ a_t a_t_parameters a_t_length a_t_now a_t_table a_t_met a_t_any a_t_number a_t_outAny a_t_out a_t_newLength a_t_first a_t_anew a_t_inputs a_t_at a_t_in a_t_back a_t_register a_t_output a_t_calls a_t_latest a_t_differ t_code t_own t_count t_tableSize t_given t_known t_news t_depth t_steps t_taken t_shown t_outcome t_parameters t_length t_now t_table t_met t_any t_number t_outAny t_out)) (hl : lv_has ls 10 [(0, .ref a_t), (1, .int x1), (2, .int x2), (4, .int x4), (8, .int x8)]) : W p l e r_X8_spread s m args below meth c H locs 0 0 (MQ below (g_Qv dC dI cI cZ cJ A (w_X8_spread cI cZ cJ a_t a_t_parameters a_t_length a_t_now a_t_table a_t_met a_t_any a_t_number a_t_outAny a_t_out a_t_newLength a_t_first a_t_anew a_t_inputs a_t_at a_t_in a_t_back a_t_register a_t_output a_t_calls a_t_latest a_t_differ t_code t_own t_count t_tableSize t_given t_known out.1 t_depth t_steps t_taken t_shown t_outcome t_parameters t_length t_now t_table out.2.1 out.2.2.1 out.2.2.2.1 out.2.2.2.2.1 out.2.2.2.2.2)) args s 0 0 A) (F0 m 140 ls [.int z0]) := by
  have hx := hC.1
  have hb := hC.2.1
  have hown := hC.2.2.2.2.1
  have hts := hC.2.2.2.2.2.1
  unfold f_X8_spread_140 at hf
  refine lv_istore (lv' := [(9, .int z0), (0, .ref a_t), (1, .int x1), (2, .int x2), (4, .int x4), (8, .int x8)]) hx hb dX8_spread_140 hl (by decide) rfl (fun ls hl => ?_)
  refine lv_iload hx hb dX8_spread_142 (lv_at hl 5 rfl) ?_
  refine lv_if_eq (tgt := 152) hx hb dX8_spread_144 (by decide) (fun c8 => ?_) (fun c8 => ?_)
  · replace hf := (if_pos c8).symm.trans hf
    refine lv_iconst (v := 1) hx hb dX8_spread_152 (by decide) ?_
    refine lv_goto (tgt := 157) hx hb dX8_spread_153 (by decide) ?_
    refine lv_istore (lv' := [(6, .int 1), (9, .int z0), (0, .ref a_t), (1, .int x1), (2, .int x2), (4, .int x4), (8, .int x8)]) hx hb dX8_spread_157 hl (by decide) rfl (fun ls hl => ?_)
    refine lv_iload hx hb dX8_spread_159 (lv_at hl 1 rfl) ?_
    refine lv_if_ne (tgt := 168) hx hb dX8_spread_161 (by decide) (fun c9 => ?_) (fun c9 => ?_)
    · replace hf := (if_neg c9).symm.trans hf
      refine lv_iconst (v := 0) hx hb dX8_spread_168 (by decide) ?_
      refine lv_istore (lv' := [(7, .int 0), (6, .int 1), (9, .int z0), (0, .ref a_t), (1, .int x1), (2, .int x2), (4, .int x4), (8, .int x8)]) hx hb dX8_spread_169 hl (by decide) rfl (fun ls hl => ?_)
      exact b_X8_spread_171 hC hf hW (lv_sub hl [3, 4, 5, 6, 1, 0] rfl)
    · replace hf := (if_pos c9).symm.trans hf
      refine lv_iconst (v := 1) hx hb dX8_spread_164 (by decide) ?_
      refine lv_goto (tgt := 169) hx hb dX8_spread_165 (by decide) ?_
      refine lv_istore (lv' := [(7, .int 1), (6, .int 1), (9, .int z0), (0, .ref a_t), (1, .int x1), (2, .int x2), (4, .int x4), (8, .int x8)]) hx hb dX8_spread_169 hl (by decide) rfl (fun ls hl => ?_)
      exact b_X8_spread_171 hC hf hW (lv_sub hl [3, 4, 5, 6, 1, 0] rfl)
  · replace hf := (if_neg c8).symm.trans hf
    refine lv_iload hx hb dX8_spread_147 (lv_at hl 0 rfl) ?_
    refine lv_if_eq (tgt := 156) hx hb dX8_spread_149 (by decide) (fun c10 => ?_) (fun c10 => ?_)
    · replace hf := (if_pos c10).symm.trans hf
      refine lv_iconst (v := 0) hx hb dX8_spread_156 (by decide) ?_
      refine lv_istore (lv' := [(6, .int 0), (9, .int z0), (0, .ref a_t), (1, .int x1), (2, .int x2), (4, .int x4), (8, .int x8)]) hx hb dX8_spread_157 hl (by decide) rfl (fun ls hl => ?_)
      refine lv_iload hx hb dX8_spread_159 (lv_at hl 1 rfl) ?_
      refine lv_if_ne (tgt := 168) hx hb dX8_spread_161 (by decide) (fun c11 => ?_) (fun c11 => ?_)
      · replace hf := (if_neg c11).symm.trans hf
        refine lv_iconst (v := 0) hx hb dX8_spread_168 (by decide) ?_
        refine lv_istore (lv' := [(7, .int 0), (6, .int 0), (9, .int z0), (0, .ref a_t), (1, .int x1), (2, .int x2), (4, .int x4), (8, .int x8)]) hx hb dX8_spread_169 hl (by decide) rfl (fun ls hl => ?_)
        exact b_X8_spread_171 hC hf hW (lv_sub hl [3, 4, 5, 6, 1, 0] rfl)
      · replace hf := (if_pos c11).symm.trans hf
        refine lv_iconst (v := 1) hx hb dX8_spread_164 (by decide) ?_
        refine lv_goto (tgt := 169) hx hb dX8_spread_165 (by decide) ?_
        refine lv_istore (lv' := [(7, .int 1), (6, .int 0), (9, .int z0), (0, .ref a_t), (1, .int x1), (2, .int x2), (4, .int x4), (8, .int x8)]) hx hb dX8_spread_169 hl (by decide) rfl (fun ls hl => ?_)
        exact b_X8_spread_171 hC hf hW (lv_sub hl [3, 4, 5, 6, 1, 0] rfl)
    · replace hf := (if_neg c10).symm.trans hf
      refine lv_iconst (v := 1) hx hb dX8_spread_152 (by decide) ?_
      refine lv_goto (tgt := 157) hx hb dX8_spread_153 (by decide) ?_
      refine lv_istore (lv' := [(6, .int 1), (9, .int z0), (0, .ref a_t), (1, .int x1), (2, .int x2), (4, .int x4), (8, .int x8)]) hx hb dX8_spread_157 hl (by decide) rfl (fun ls hl => ?_)
      refine lv_iload hx hb dX8_spread_159 (lv_at hl 1 rfl) ?_
      refine lv_if_ne (tgt := 168) hx hb dX8_spread_161 (by decide) (fun c12 => ?_) (fun c12 => ?_)
      · replace hf := (if_neg c12).symm.trans hf
        refine lv_iconst (v := 0) hx hb dX8_spread_168 (by decide) ?_
        refine lv_istore (lv' := [(7, .int 0), (6, .int 1), (9, .int z0), (0, .ref a_t), (1, .int x1), (2, .int x2), (4, .int x4), (8, .int x8)]) hx hb dX8_spread_169 hl (by decide) rfl (fun ls hl => ?_)
        exact b_X8_spread_171 hC hf hW (lv_sub hl [3, 4, 5, 6, 1, 0] rfl)
      · replace hf := (if_pos c12).symm.trans hf
        refine lv_iconst (v := 1) hx hb dX8_spread_164 (by decide) ?_
        refine lv_goto (tgt := 169) hx hb dX8_spread_165 (by decide) ?_
        refine lv_istore (lv' := [(7, .int 1), (6, .int 1), (9, .int z0), (0, .ref a_t), (1, .int x1), (2, .int x2), (4, .int x4), (8, .int x8)]) hx hb dX8_spread_169 hl (by decide) rfl (fun ls hl => ?_)
        exact b_X8_spread_171 hC hf hW (lv_sub hl [3, 4, 5, 6, 1, 0] rfl)
def f_X8_spread_88 (N : Nat) (x1 : Int32) (x2 : Int32) (t_tableSize : Int32) (t_parameters : Nat → Int32) (t_length : Nat → Int32) (t_now : Nat → Int32) (t_table : Nat → Int32) (x3 : Int32) (x4 : Int32) (x5 : Int32) (x6 : Int32) (z0 : Int32) (t_news : Int32) (t_met : Nat → Int32) (t_any : Nat → Int32) (t_number : Nat → Int32) (t_outAny : Nat → Int32) (t_out : Nat → Int32) : Option (Int32 × (Nat → Int32) × (Nat → Int32) × (Nat → Int32) × (Nat → Int32) × (Nat → Int32)) := if x5 = 7 then (g_rd 1152 t_now (x4 + 3)).bind (fun v14 => (f_X8_has x3 v14 t_any).bind (fun o15 => if o15 = 0 then f_X8_spread_140 N x1 x2 t_tableSize t_parameters t_length t_now t_table x4 o15 0 t_news t_met t_any t_number t_outAny t_out else (g_rd 1152 t_now (x4 + 3)).bind (fun v17 => (f_X8_valueAt x3 v17 t_number).bind (fun o18 => if o18 = 0 then f_X8_spread_140 N x1 x2 t_tableSize t_parameters t_length t_now t_table x4 o15 0 t_news t_met t_any t_number t_outAny t_out else f_X8_spread_140 N x1 x2 t_tableSize t_parameters t_length t_now t_table x4 o15 1 t_news t_met t_any t_number t_outAny t_out)))) else f_X8_spread_171 N x1 x2 t_tableSize t_parameters t_length t_now t_table x4 x6 z0 t_news t_met t_any t_number t_outAny t_out
set_option maxHeartbeats 4000000 in
set_option maxRecDepth 100000 in
theorem b_X8_spread_88 {p : Program} {l : Launch} {e : Env} {s : State} {m : MethodId} {args : Array Value} {below : List Frame} {meth : Method} {c : Code} {tA : Nat} {dC : Nat → ClassId} {dI : Nat → Nat → Nat} {cI cZ cJ : ClassId} {A : Nat → Prop} {a_t : Nat} {a_t_parameters : Nat} {a_t_length : Nat} {a_t_now : Nat} {a_t_table : Nat} {a_t_met : Nat} {a_t_any : Nat} {a_t_number : Nat} {a_t_outAny : Nat} {a_t_out : Nat} {a_t_newLength : Nat} {a_t_first : Nat} {a_t_anew : Nat} {a_t_inputs : Nat} {a_t_at : Nat} {a_t_in : Nat} {a_t_back : Nat} {a_t_register : Nat} {a_t_output : Nat} {a_t_calls : Nat} {a_t_latest : Nat} {a_t_differ : Nat} {x1 : Int32} {x2 : Int32} {t_tableSize : Int32} {t_parameters : Nat → Int32} {t_length : Nat → Int32} {t_now : Nat → Int32} {t_table : Nat → Int32} {t_code : Int32} {t_own : Int32} {t_count : Int32} {t_given : Int32} {t_known : Int32} {t_depth : Int32} {t_steps : Int32} {t_taken : Int32} {t_shown : Int32} {t_outcome : Int32} {N : Nat} {x3 : Int32} {x4 : Int32} {x5 : Int32} {x6 : Int32} {z0 : Int32} {t_news : Int32} {t_met : Nat → Int32} {t_any : Nat → Int32} {t_number : Nat → Int32} {t_outAny : Nat → Int32} {t_out : Nat → Int32} {out : Int32 × (Nat → Int32) × (Nat → Int32) × (Nat → Int32) × (Nat → Int32) × (Nat → Int32)} (hC : g_C p s m meth c args cX8_spread 10 (none : Option Jvm.ClassFile.FieldType) RX8) (hf : f_X8_spread_88 N x1 x2 t_tableSize t_parameters t_length t_now t_table x3 x4 x5 x6 z0 t_news t_met t_any t_number t_outAny t_out = some out) {H : Heap} {locs : List Loc} {ls : Array Slot} (hW : g_W tA dC dI cI cZ cJ A s H locs (w_X8_spread cI cZ cJ a_t a_t_parameters a_t_length a_t_now a_t_table a_t_met a_t_any a_t_number a_t_outAny a_t_out a_t_newLength a_t_first a_t_anew a_t_inputs a_t_at a_t_in a_t_back a_t_register a_t_output a_t_calls a_t_latest a_t_differ t_code t_own t_count t_tableSize t_given t_known t_news t_depth t_steps t_taken t_shown t_outcome t_parameters t_length t_now t_table t_met t_any t_number t_outAny t_out)) (hl : lv_has ls 10 [(0, .ref a_t), (1, .int x1), (2, .int x2), (3, .int x3), (4, .int x4), (5, .int x5), (6, .int x6)]) : W p l e r_X8_spread s m args below meth c H locs 0 0 (MQ below (g_Qv dC dI cI cZ cJ A (w_X8_spread cI cZ cJ a_t a_t_parameters a_t_length a_t_now a_t_table a_t_met a_t_any a_t_number a_t_outAny a_t_out a_t_newLength a_t_first a_t_anew a_t_inputs a_t_at a_t_in a_t_back a_t_register a_t_output a_t_calls a_t_latest a_t_differ t_code t_own t_count t_tableSize t_given t_known out.1 t_depth t_steps t_taken t_shown t_outcome t_parameters t_length t_now t_table out.2.1 out.2.2.1 out.2.2.2.1 out.2.2.2.2.1 out.2.2.2.2.2)) args s 0 0 A) (F0 m 88 ls [.int z0]) := by
  have hx := hC.1
  have hb := hC.2.1
  have hown := hC.2.2.2.2.1
  have hts := hC.2.2.2.2.2.1
  unfold f_X8_spread_88 at hf
  refine lv_istore (lv' := [(7, .int z0), (0, .ref a_t), (1, .int x1), (2, .int x2), (3, .int x3), (4, .int x4), (5, .int x5), (6, .int x6)]) hx hb dX8_spread_88 hl (by decide) rfl (fun ls hl => ?_)
  refine lv_iload hx hb dX8_spread_90 (lv_at hl 6 rfl) ?_
  refine lv_bipush (v := 7) hx hb dX8_spread_92 (by decide) ?_
  refine lv_icmp_ne (tgt := 171) hx hb dX8_spread_94 (by decide) (fun c13 => ?_) (fun c13 => ?_)
  · replace hf := (if_neg c13).symm.trans hf
    exact b_X8_spread_171 hC hf hW (lv_sub hl [1, 2, 3, 5, 7, 0] rfl)
  · replace hf := (if_pos c13).symm.trans hf
    refine lv_aload_n hx hb dX8_spread_97 rfl (lv_at hl 1 rfl) ?_
    refine lv_iload_n hx hb dX8_spread_98 rfl (lv_at hl 4 rfl) ?_
    refine lv_aload_n hx hb dX8_spread_99 rfl (lv_at hl 1 rfl) ?_
    refine gs_get hC hW in_X8 0 7 rfl rfl (by decide) fl_X8_22 rfl dX8_spread_100 ?_
    refine lv_iload hx hb dX8_spread_103 (lv_at hl 5 rfl) ?_
    refine lv_iconst (v := 3) hx hb dX8_spread_105 (by decide) ?_
    refine lv_iadd hx hb dX8_spread_106 ?_
    obtain ⟨v14, h14, hf⟩ := g_bnd hf
    refine gs_iald hC hW 3 h14 rfl dX8_spread_107 ?_
    obtain ⟨o15, h15, hf⟩ := g_bnd hf
    refine gs_callVi (ws' := w_X8_spread cI cZ cJ a_t a_t_parameters a_t_length a_t_now a_t_table a_t_met a_t_any a_t_number a_t_outAny a_t_out a_t_newLength a_t_first a_t_anew a_t_inputs a_t_at a_t_in a_t_back a_t_register a_t_output a_t_calls a_t_latest a_t_differ t_code t_own t_count t_tableSize t_given t_known t_news t_depth t_steps t_taken t_shown t_outcome t_parameters t_length t_now t_table t_met t_any t_number t_outAny t_out) hC hW (k_X8_has l tA dC dI cI cZ cJ a_t a_t_any a_t_parameters a_t_length a_t_newLength a_t_first a_t_now a_t_anew a_t_table a_t_inputs a_t_met a_t_number a_t_outAny a_t_out a_t_at a_t_in a_t_back a_t_register a_t_output a_t_calls a_t_latest a_t_differ x3 v14 t_code t_own t_count t_tableSize t_given t_known t_news t_depth t_steps t_taken t_shown t_outcome t_any _ h15) yk_X8_has lk_X8_118 iv_X8_has ⟨rfl, rfl⟩ ⟨Nat.le_of_ble_eq_true rfl, Nat.le_of_ble_eq_true rfl⟩ hl.1 0 rfl rfl [0, 6] [1, 2, 3, 4, 5, 7, 8, 9] [8, 0, 1, 2, 3, 4, 9, 5, 6, 7] rfl rfl rfl rfl (by decide) rfl rfl rfl rfl (Nat.le_of_ble_eq_true rfl) dX8_spread_108 ⟨Nat.zero_le _, Nat.zero_le _⟩ (fun H locs hW => ?_)
    refine lv_istore (lv' := [(8, .int o15), (7, .int z0), (0, .ref a_t), (1, .int x1), (2, .int x2), (3, .int x3), (4, .int x4), (5, .int x5), (6, .int x6)]) hx hb dX8_spread_111 hl (by decide) rfl (fun ls hl => ?_)
    refine lv_iload hx hb dX8_spread_113 (lv_at hl 0 rfl) ?_
    refine lv_if_eq (tgt := 139) hx hb dX8_spread_115 (by decide) (fun c16 => ?_) (fun c16 => ?_)
    · replace hf := (if_pos c16).symm.trans hf
      refine lv_iconst (v := 0) hx hb dX8_spread_139 (by decide) ?_
      exact b_X8_spread_140 hC hf hW (lv_sub hl [2, 3, 4, 6, 0] rfl)
    · replace hf := (if_neg c16).symm.trans hf
      refine lv_aload_n hx hb dX8_spread_118 rfl (lv_at hl 2 rfl) ?_
      refine lv_iload_n hx hb dX8_spread_119 rfl (lv_at hl 5 rfl) ?_
      refine lv_aload_n hx hb dX8_spread_120 rfl (lv_at hl 2 rfl) ?_
      refine gs_get hC hW in_X8 0 7 rfl rfl (by decide) fl_X8_22 rfl dX8_spread_121 ?_
      refine lv_iload hx hb dX8_spread_124 (lv_at hl 6 rfl) ?_
      refine lv_iconst (v := 3) hx hb dX8_spread_126 (by decide) ?_
      refine lv_iadd hx hb dX8_spread_127 ?_
      obtain ⟨v17, h17, hf⟩ := g_bnd hf
      refine gs_iald hC hW 3 h17 rfl dX8_spread_128 ?_
      obtain ⟨o18, h18, hf⟩ := g_bnd hf
      refine gs_callVi (ws' := w_X8_spread cI cZ cJ a_t a_t_parameters a_t_length a_t_now a_t_table a_t_met a_t_any a_t_number a_t_outAny a_t_out a_t_newLength a_t_first a_t_anew a_t_inputs a_t_at a_t_in a_t_back a_t_register a_t_output a_t_calls a_t_latest a_t_differ t_code t_own t_count t_tableSize t_given t_known t_news t_depth t_steps t_taken t_shown t_outcome t_parameters t_length t_now t_table t_met t_any t_number t_outAny t_out) hC hW (k_X8_valueAt l tA dC dI cI cZ cJ a_t a_t_number a_t_parameters a_t_length a_t_newLength a_t_first a_t_now a_t_anew a_t_table a_t_inputs a_t_met a_t_any a_t_outAny a_t_out a_t_at a_t_in a_t_back a_t_register a_t_output a_t_calls a_t_latest a_t_differ x3 v17 t_code t_own t_count t_tableSize t_given t_known t_news t_depth t_steps t_taken t_shown t_outcome t_number _ h18) yk_X8_valueAt lk_X8_122 iv_X8_valueAt ⟨rfl, rfl⟩ ⟨Nat.le_of_ble_eq_true rfl, Nat.le_of_ble_eq_true rfl⟩ hl.1 0 rfl rfl [0, 7] [1, 2, 3, 4, 5, 6, 8, 9] [8, 0, 1, 2, 3, 4, 5, 9, 6, 7] rfl rfl rfl rfl (by decide) rfl rfl rfl rfl (Nat.le_of_ble_eq_true rfl) dX8_spread_129 ⟨Nat.zero_le _, Nat.zero_le _⟩ (fun H locs hW => ?_)
      refine lv_if_eq (tgt := 139) hx hb dX8_spread_132 (by decide) (fun c19 => ?_) (fun c19 => ?_)
      · replace hf := (if_pos c19).symm.trans hf
        refine lv_iconst (v := 0) hx hb dX8_spread_139 (by decide) ?_
        exact b_X8_spread_140 hC hf hW (lv_sub hl [2, 3, 4, 6, 0] rfl)
      · replace hf := (if_neg c19).symm.trans hf
        refine lv_iconst (v := 1) hx hb dX8_spread_135 (by decide) ?_
        refine lv_goto (tgt := 140) hx hb dX8_spread_136 (by decide) ?_
        exact b_X8_spread_140 hC hf hW (lv_sub hl [2, 3, 4, 6, 0] rfl)
def f_X8_spread_48 (N : Nat) (x1 : Int32) (x2 : Int32) (t_tableSize : Int32) (t_parameters : Nat → Int32) (t_length : Nat → Int32) (t_now : Nat → Int32) (t_table : Nat → Int32) (x3 : Int32) (x4 : Int32) (x5 : Int32) (t_news : Int32) (t_met : Nat → Int32) (t_any : Nat → Int32) (t_number : Nat → Int32) (t_outAny : Nat → Int32) (t_out : Nat → Int32) : Option (Int32 × (Nat → Int32) × (Nat → Int32) × (Nat → Int32) × (Nat → Int32) × (Nat → Int32)) := (f_X8_change N x4 x3 t_tableSize t_now t_any t_number t_outAny t_out).bind (fun o20 => if x5 = 8 then if x5 = 8 then f_X8_spread_88 N x1 x2 t_tableSize t_parameters t_length t_now t_table x3 x4 x5 1 0 t_news t_met t_any t_number o20.1 o20.2 else if x5 = 9 then f_X8_spread_88 N x1 x2 t_tableSize t_parameters t_length t_now t_table x3 x4 x5 1 0 t_news t_met t_any t_number o20.1 o20.2 else f_X8_spread_88 N x1 x2 t_tableSize t_parameters t_length t_now t_table x3 x4 x5 1 1 t_news t_met t_any t_number o20.1 o20.2 else if x5 = 8 then f_X8_spread_88 N x1 x2 t_tableSize t_parameters t_length t_now t_table x3 x4 x5 0 0 t_news t_met t_any t_number o20.1 o20.2 else if x5 = 9 then f_X8_spread_88 N x1 x2 t_tableSize t_parameters t_length t_now t_table x3 x4 x5 0 0 t_news t_met t_any t_number o20.1 o20.2 else f_X8_spread_88 N x1 x2 t_tableSize t_parameters t_length t_now t_table x3 x4 x5 0 1 t_news t_met t_any t_number o20.1 o20.2)
set_option maxHeartbeats 4000000 in
set_option maxRecDepth 100000 in
theorem b_X8_spread_48 {p : Program} {l : Launch} {e : Env} {s : State} {m : MethodId} {args : Array Value} {below : List Frame} {meth : Method} {c : Code} {tA : Nat} {dC : Nat → ClassId} {dI : Nat → Nat → Nat} {cI cZ cJ : ClassId} {A : Nat → Prop} {a_t : Nat} {a_t_parameters : Nat} {a_t_length : Nat} {a_t_now : Nat} {a_t_table : Nat} {a_t_met : Nat} {a_t_any : Nat} {a_t_number : Nat} {a_t_outAny : Nat} {a_t_out : Nat} {a_t_newLength : Nat} {a_t_first : Nat} {a_t_anew : Nat} {a_t_inputs : Nat} {a_t_at : Nat} {a_t_in : Nat} {a_t_back : Nat} {a_t_register : Nat} {a_t_output : Nat} {a_t_calls : Nat} {a_t_latest : Nat} {a_t_differ : Nat} {x1 : Int32} {x2 : Int32} {t_tableSize : Int32} {t_parameters : Nat → Int32} {t_length : Nat → Int32} {t_now : Nat → Int32} {t_table : Nat → Int32} {t_code : Int32} {t_own : Int32} {t_count : Int32} {t_given : Int32} {t_known : Int32} {t_depth : Int32} {t_steps : Int32} {t_taken : Int32} {t_shown : Int32} {t_outcome : Int32} {N : Nat} {x3 : Int32} {x4 : Int32} {x5 : Int32} {t_news : Int32} {t_met : Nat → Int32} {t_any : Nat → Int32} {t_number : Nat → Int32} {t_outAny : Nat → Int32} {t_out : Nat → Int32} {out : Int32 × (Nat → Int32) × (Nat → Int32) × (Nat → Int32) × (Nat → Int32) × (Nat → Int32)} (hC : g_C p s m meth c args cX8_spread 10 (none : Option Jvm.ClassFile.FieldType) RX8) (hf : f_X8_spread_48 N x1 x2 t_tableSize t_parameters t_length t_now t_table x3 x4 x5 t_news t_met t_any t_number t_outAny t_out = some out) {H : Heap} {locs : List Loc} {ls : Array Slot} (hW : g_W tA dC dI cI cZ cJ A s H locs (w_X8_spread cI cZ cJ a_t a_t_parameters a_t_length a_t_now a_t_table a_t_met a_t_any a_t_number a_t_outAny a_t_out a_t_newLength a_t_first a_t_anew a_t_inputs a_t_at a_t_in a_t_back a_t_register a_t_output a_t_calls a_t_latest a_t_differ t_code t_own t_count t_tableSize t_given t_known t_news t_depth t_steps t_taken t_shown t_outcome t_parameters t_length t_now t_table t_met t_any t_number t_outAny t_out)) (hl : lv_has ls 10 [(0, .ref a_t), (1, .int x1), (2, .int x2), (3, .int x3), (4, .int x4), (5, .int x5)]) : W p l e r_X8_spread s m args below meth c H locs 0 0 (MQ below (g_Qv dC dI cI cZ cJ A (w_X8_spread cI cZ cJ a_t a_t_parameters a_t_length a_t_now a_t_table a_t_met a_t_any a_t_number a_t_outAny a_t_out a_t_newLength a_t_first a_t_anew a_t_inputs a_t_at a_t_in a_t_back a_t_register a_t_output a_t_calls a_t_latest a_t_differ t_code t_own t_count t_tableSize t_given t_known out.1 t_depth t_steps t_taken t_shown t_outcome t_parameters t_length t_now t_table out.2.1 out.2.2.1 out.2.2.2.1 out.2.2.2.2.1 out.2.2.2.2.2)) args s 0 0 A) (F0 m 48 ls []) := by
  have hx := hC.1
  have hb := hC.2.1
  have hown := hC.2.2.2.2.1
  have hts := hC.2.2.2.2.2.1
  unfold f_X8_spread_48 at hf
  refine lv_aload_n hx hb dX8_spread_48 rfl (lv_at hl 0 rfl) ?_
  refine lv_iload hx hb dX8_spread_49 (lv_at hl 4 rfl) ?_
  refine lv_iload_n hx hb dX8_spread_51 rfl (lv_at hl 3 rfl) ?_
  obtain ⟨o20, h20, hf⟩ := g_bnd hf
  refine gs_callVv (ws' := w_X8_spread cI cZ cJ a_t a_t_parameters a_t_length a_t_now a_t_table a_t_met a_t_any a_t_number a_t_outAny a_t_out a_t_newLength a_t_first a_t_anew a_t_inputs a_t_at a_t_in a_t_back a_t_register a_t_output a_t_calls a_t_latest a_t_differ t_code t_own t_count t_tableSize t_given t_known t_news t_depth t_steps t_taken t_shown t_outcome t_parameters t_length t_now t_table t_met t_any t_number o20.1 o20.2) hC hW (k_X8_change l tA dC dI cI cZ cJ a_t a_t_now a_t_any a_t_number a_t_outAny a_t_out a_t_parameters a_t_length a_t_newLength a_t_first a_t_anew a_t_table a_t_inputs a_t_met a_t_at a_t_in a_t_back a_t_register a_t_output a_t_calls a_t_latest a_t_differ N x4 x3 t_code t_own t_count t_tableSize t_given t_known t_news t_depth t_steps t_taken t_shown t_outcome t_now t_any t_number t_outAny t_out _ h20) yk_X8_change lk_X8_146 iv_X8_change ⟨rfl, rfl⟩ ⟨Nat.le_of_ble_eq_true rfl, Nat.le_of_ble_eq_true rfl⟩ hl.1 0 rfl rfl [0, 3, 6, 7, 8, 9] [1, 2, 4, 5] [4, 0, 1, 5, 2, 3, 6, 7, 8, 9] rfl rfl rfl rfl (by decide) rfl rfl rfl rfl (Nat.le_of_ble_eq_true rfl) dX8_spread_52 ⟨Nat.zero_le _, Nat.zero_le _⟩ (fun H locs hW => ?_)
  refine lv_iload hx hb dX8_spread_55 (lv_at hl 5 rfl) ?_
  refine lv_bipush (v := 8) hx hb dX8_spread_57 (by decide) ?_
  refine lv_icmp_ne (tgt := 66) hx hb dX8_spread_59 (by decide) (fun c21 => ?_) (fun c21 => ?_)
  · replace hf := (if_neg c21).symm.trans hf
    refine lv_iconst (v := 0) hx hb dX8_spread_66 (by decide) ?_
    refine lv_istore (lv' := [(6, .int 0), (0, .ref a_t), (1, .int x1), (2, .int x2), (3, .int x3), (4, .int x4), (5, .int x5)]) hx hb dX8_spread_67 hl (by decide) rfl (fun ls hl => ?_)
    refine lv_iload hx hb dX8_spread_69 (lv_at hl 6 rfl) ?_
    refine lv_bipush (v := 8) hx hb dX8_spread_71 (by decide) ?_
    refine lv_icmp_eq (tgt := 87) hx hb dX8_spread_73 (by decide) (fun c22 => ?_) (fun c22 => ?_)
    · replace hf := (if_pos c22).symm.trans hf
      refine lv_iconst (v := 0) hx hb dX8_spread_87 (by decide) ?_
      exact b_X8_spread_88 hC hf hW (lv_sub hl [1, 2, 3, 4, 5, 6, 0] rfl)
    · replace hf := (if_neg c22).symm.trans hf
      refine lv_iload hx hb dX8_spread_76 (lv_at hl 6 rfl) ?_
      refine lv_bipush (v := 9) hx hb dX8_spread_78 (by decide) ?_
      refine lv_icmp_eq (tgt := 87) hx hb dX8_spread_80 (by decide) (fun c23 => ?_) (fun c23 => ?_)
      · replace hf := (if_pos c23).symm.trans hf
        refine lv_iconst (v := 0) hx hb dX8_spread_87 (by decide) ?_
        exact b_X8_spread_88 hC hf hW (lv_sub hl [1, 2, 3, 4, 5, 6, 0] rfl)
      · replace hf := (if_neg c23).symm.trans hf
        refine lv_iconst (v := 1) hx hb dX8_spread_83 (by decide) ?_
        refine lv_goto (tgt := 88) hx hb dX8_spread_84 (by decide) ?_
        exact b_X8_spread_88 hC hf hW (lv_sub hl [1, 2, 3, 4, 5, 6, 0] rfl)
  · replace hf := (if_pos c21).symm.trans hf
    refine lv_iconst (v := 1) hx hb dX8_spread_62 (by decide) ?_
    refine lv_goto (tgt := 67) hx hb dX8_spread_63 (by decide) ?_
    refine lv_istore (lv' := [(6, .int 1), (0, .ref a_t), (1, .int x1), (2, .int x2), (3, .int x3), (4, .int x4), (5, .int x5)]) hx hb dX8_spread_67 hl (by decide) rfl (fun ls hl => ?_)
    refine lv_iload hx hb dX8_spread_69 (lv_at hl 6 rfl) ?_
    refine lv_bipush (v := 8) hx hb dX8_spread_71 (by decide) ?_
    refine lv_icmp_eq (tgt := 87) hx hb dX8_spread_73 (by decide) (fun c24 => ?_) (fun c24 => ?_)
    · replace hf := (if_pos c24).symm.trans hf
      refine lv_iconst (v := 0) hx hb dX8_spread_87 (by decide) ?_
      exact b_X8_spread_88 hC hf hW (lv_sub hl [1, 2, 3, 4, 5, 6, 0] rfl)
    · replace hf := (if_neg c24).symm.trans hf
      refine lv_iload hx hb dX8_spread_76 (lv_at hl 6 rfl) ?_
      refine lv_bipush (v := 9) hx hb dX8_spread_78 (by decide) ?_
      refine lv_icmp_eq (tgt := 87) hx hb dX8_spread_80 (by decide) (fun c25 => ?_) (fun c25 => ?_)
      · replace hf := (if_pos c25).symm.trans hf
        refine lv_iconst (v := 0) hx hb dX8_spread_87 (by decide) ?_
        exact b_X8_spread_88 hC hf hW (lv_sub hl [1, 2, 3, 4, 5, 6, 0] rfl)
      · replace hf := (if_neg c25).symm.trans hf
        refine lv_iconst (v := 1) hx hb dX8_spread_83 (by decide) ?_
        refine lv_goto (tgt := 88) hx hb dX8_spread_84 (by decide) ?_
        exact b_X8_spread_88 hC hf hW (lv_sub hl [1, 2, 3, 4, 5, 6, 0] rfl)
def f_X8_spread (N : Nat) (x1 : Int32) (x2 : Int32) (t_tableSize : Int32) (t_news : Int32) (t_parameters : Nat → Int32) (t_length : Nat → Int32) (t_now : Nat → Int32) (t_table : Nat → Int32) (t_met : Nat → Int32) (t_any : Nat → Int32) (t_number : Nat → Int32) (t_outAny : Nat → Int32) (t_out : Nat → Int32) : Option (Int32 × (Nat → Int32) × (Nat → Int32) × (Nat → Int32) × (Nat → Int32) × (Nat → Int32)) := (g_rd 1152 t_now ((96 * x1) + (6 * x2))).bind (fun v26 => if v26 = 10 then (f_X8_callAll N ((96 * x1) + (6 * x2)) ((17 * x1) + x2) t_tableSize t_news t_parameters t_length t_now t_table t_met t_any t_number t_outAny t_out).bind (fun o28 => f_X8_spread_48 N x1 x2 t_tableSize t_parameters t_length t_now t_table ((17 * x1) + x2) ((96 * x1) + (6 * x2)) v26 o28.1 o28.2.1 o28.2.2.1 o28.2.2.2.1 o28.2.2.2.2.1 o28.2.2.2.2.2) else if v26 = 11 then (f_X8_callAll N ((96 * x1) + (6 * x2)) ((17 * x1) + x2) t_tableSize t_news t_parameters t_length t_now t_table t_met t_any t_number t_outAny t_out).bind (fun o30 => f_X8_spread_48 N x1 x2 t_tableSize t_parameters t_length t_now t_table ((17 * x1) + x2) ((96 * x1) + (6 * x2)) v26 o30.1 o30.2.1 o30.2.2.1 o30.2.2.2.1 o30.2.2.2.2.1 o30.2.2.2.2.2) else f_X8_spread_48 N x1 x2 t_tableSize t_parameters t_length t_now t_table ((17 * x1) + x2) ((96 * x1) + (6 * x2)) v26 t_news t_met t_any t_number t_outAny t_out)
set_option maxHeartbeats 4000000 in
set_option maxRecDepth 100000 in
theorem k_X8_spread (l : Launch) (tA : Nat) (dC : Nat → ClassId) (dI : Nat → Nat → Nat) (cI cZ cJ : ClassId) (a_t : Nat) (a_t_parameters : Nat) (a_t_length : Nat) (a_t_now : Nat) (a_t_table : Nat) (a_t_met : Nat) (a_t_any : Nat) (a_t_number : Nat) (a_t_outAny : Nat) (a_t_out : Nat) (a_t_newLength : Nat) (a_t_first : Nat) (a_t_anew : Nat) (a_t_inputs : Nat) (a_t_at : Nat) (a_t_in : Nat) (a_t_back : Nat) (a_t_register : Nat) (a_t_output : Nat) (a_t_calls : Nat) (a_t_latest : Nat) (a_t_differ : Nat) (N : Nat) (x1 : Int32) (x2 : Int32) (t_code : Int32) (t_own : Int32) (t_count : Int32) (t_tableSize : Int32) (t_given : Int32) (t_known : Int32) (t_news : Int32) (t_depth : Int32) (t_steps : Int32) (t_taken : Int32) (t_shown : Int32) (t_outcome : Int32) (t_parameters : Nat → Int32) (t_length : Nat → Int32) (t_now : Nat → Int32) (t_table : Nat → Int32) (t_met : Nat → Int32) (t_any : Nat → Int32) (t_number : Nat → Int32) (t_outAny : Nat → Int32) (t_out : Nat → Int32) (out : Int32 × (Nat → Int32) × (Nat → Int32) × (Nat → Int32) × (Nat → Int32) × (Nat → Int32)) (hf : f_X8_spread N x1 x2 t_tableSize t_news t_parameters t_length t_now t_table t_met t_any t_number t_outAny t_out = some out) : g_Mv l yX8_spread cX8_spread 10 (none : Option Jvm.ClassFile.FieldType) r_X8_spread tA dC dI cI cZ cJ [.ref a_t, .int x1, .int x2] (w_X8_spread cI cZ cJ a_t a_t_parameters a_t_length a_t_now a_t_table a_t_met a_t_any a_t_number a_t_outAny a_t_out a_t_newLength a_t_first a_t_anew a_t_inputs a_t_at a_t_in a_t_back a_t_register a_t_output a_t_calls a_t_latest a_t_differ t_code t_own t_count t_tableSize t_given t_known t_news t_depth t_steps t_taken t_shown t_outcome t_parameters t_length t_now t_table t_met t_any t_number t_outAny t_out) (w_X8_spread cI cZ cJ a_t a_t_parameters a_t_length a_t_now a_t_table a_t_met a_t_any a_t_number a_t_outAny a_t_out a_t_newLength a_t_first a_t_anew a_t_inputs a_t_at a_t_in a_t_back a_t_register a_t_output a_t_calls a_t_latest a_t_differ t_code t_own t_count t_tableSize t_given t_known out.1 t_depth t_steps t_taken t_shown t_outcome t_parameters t_length t_now t_table out.2.1 out.2.2.1 out.2.2.2.1 out.2.2.2.2.1 out.2.2.2.2.2) := by
  unfold f_X8_spread at hf
  refine ge_v (by decide) (Nat.le_of_ble_eq_true rfl) (fun p e s m below meth c A H locs ls hC hW hl => ?_)
  have hC : g_C p s m meth c _ cX8_spread 10 (none : Option Jvm.ClassFile.FieldType) RX8 := hC
  have hx := hC.1
  have hb := hC.2.1
  have hown := hC.2.2.2.2.1
  have hts := hC.2.2.2.2.2.1
  have hl : lv_has ls 10 [(0, .ref a_t), (1, .int x1), (2, .int x2)] := hl
  refine lv_bipush (v := 17) hx hb dX8_spread_0 (by decide) ?_
  refine lv_iload_n hx hb dX8_spread_2 rfl (lv_at hl 1 rfl) ?_
  refine lv_imul hx hb dX8_spread_3 ?_
  refine lv_iload_n hx hb dX8_spread_4 rfl (lv_at hl 2 rfl) ?_
  refine lv_iadd hx hb dX8_spread_5 ?_
  refine lv_istore_n (lv' := [(3, .int ((17 * x1) + x2)), (0, .ref a_t), (1, .int x1), (2, .int x2)]) hx hb dX8_spread_6 rfl hl (by decide) rfl (fun ls hl => ?_)
  refine lv_bipush (v := 96) hx hb dX8_spread_7 (by decide) ?_
  refine lv_iload_n hx hb dX8_spread_9 rfl (lv_at hl 2 rfl) ?_
  refine lv_imul hx hb dX8_spread_10 ?_
  refine lv_bipush (v := 6) hx hb dX8_spread_11 (by decide) ?_
  refine lv_iload_n hx hb dX8_spread_13 rfl (lv_at hl 3 rfl) ?_
  refine lv_imul hx hb dX8_spread_14 ?_
  refine lv_iadd hx hb dX8_spread_15 ?_
  refine lv_istore (lv' := [(4, .int ((96 * x1) + (6 * x2))), (3, .int ((17 * x1) + x2)), (0, .ref a_t), (1, .int x1), (2, .int x2)]) hx hb dX8_spread_16 hl (by decide) rfl (fun ls hl => ?_)
  refine lv_aload_n hx hb dX8_spread_18 rfl (lv_at hl 2 rfl) ?_
  refine gs_get hC hW in_X8 0 7 rfl rfl (by decide) fl_X8_22 rfl dX8_spread_19 ?_
  refine lv_iload hx hb dX8_spread_22 (lv_at hl 0 rfl) ?_
  obtain ⟨v26, h26, hf⟩ := g_bnd hf
  refine gs_iald hC hW 3 h26 rfl dX8_spread_24 ?_
  refine lv_istore (lv' := [(5, .int v26), (4, .int ((96 * x1) + (6 * x2))), (3, .int ((17 * x1) + x2)), (0, .ref a_t), (1, .int x1), (2, .int x2)]) hx hb dX8_spread_25 hl (by decide) rfl (fun ls hl => ?_)
  refine lv_iload hx hb dX8_spread_27 (lv_at hl 0 rfl) ?_
  refine lv_bipush (v := 10) hx hb dX8_spread_29 (by decide) ?_
  refine lv_icmp_eq (tgt := 41) hx hb dX8_spread_31 (by decide) (fun c27 => ?_) (fun c27 => ?_)
  · replace hf := (if_pos c27).symm.trans hf
    refine lv_aload_n hx hb dX8_spread_41 rfl (lv_at hl 3 rfl) ?_
    refine lv_iload hx hb dX8_spread_42 (lv_at hl 1 rfl) ?_
    refine lv_iload_n hx hb dX8_spread_44 rfl (lv_at hl 2 rfl) ?_
    obtain ⟨o28, h28, hf⟩ := g_bnd hf
    refine gs_callVv (ws' := w_X8_spread cI cZ cJ a_t a_t_parameters a_t_length a_t_now a_t_table a_t_met a_t_any a_t_number a_t_outAny a_t_out a_t_newLength a_t_first a_t_anew a_t_inputs a_t_at a_t_in a_t_back a_t_register a_t_output a_t_calls a_t_latest a_t_differ t_code t_own t_count t_tableSize t_given t_known o28.1 t_depth t_steps t_taken t_shown t_outcome t_parameters t_length t_now t_table o28.2.1 o28.2.2.1 o28.2.2.2.1 o28.2.2.2.2.1 o28.2.2.2.2.2) hC hW (k_X8_callAll l tA dC dI cI cZ cJ a_t a_t_parameters a_t_length a_t_now a_t_table a_t_met a_t_any a_t_number a_t_outAny a_t_out a_t_newLength a_t_first a_t_anew a_t_inputs a_t_at a_t_in a_t_back a_t_register a_t_output a_t_calls a_t_latest a_t_differ N ((96 * x1) + (6 * x2)) ((17 * x1) + x2) t_code t_own t_count t_tableSize t_given t_known t_news t_depth t_steps t_taken t_shown t_outcome t_parameters t_length t_now t_table t_met t_any t_number t_outAny t_out _ h28) yk_X8_callAll lk_X8_143 iv_X8_callAll ⟨rfl, rfl⟩ ⟨Nat.le_of_ble_eq_true rfl, Nat.le_of_ble_eq_true rfl⟩ hl.1 0 rfl rfl [0, 1, 2, 3, 4, 5, 6, 7, 8, 9] [] [0, 1, 2, 3, 4, 5, 6, 7, 8, 9] rfl rfl rfl rfl (by decide) rfl rfl rfl rfl (Nat.le_of_ble_eq_true rfl) dX8_spread_45 ⟨Nat.zero_le _, Nat.zero_le _⟩ (fun H locs hW => ?_)
    exact b_X8_spread_48 hC hf hW (lv_sub hl [3, 4, 5, 2, 1, 0] rfl)
  · replace hf := (if_neg c27).symm.trans hf
    refine lv_iload hx hb dX8_spread_34 (lv_at hl 0 rfl) ?_
    refine lv_bipush (v := 11) hx hb dX8_spread_36 (by decide) ?_
    refine lv_icmp_ne (tgt := 48) hx hb dX8_spread_38 (by decide) (fun c29 => ?_) (fun c29 => ?_)
    · replace hf := (if_neg c29).symm.trans hf
      exact b_X8_spread_48 hC hf hW (lv_sub hl [3, 4, 5, 2, 1, 0] rfl)
    · replace hf := (if_pos c29).symm.trans hf
      refine lv_aload_n hx hb dX8_spread_41 rfl (lv_at hl 3 rfl) ?_
      refine lv_iload hx hb dX8_spread_42 (lv_at hl 1 rfl) ?_
      refine lv_iload_n hx hb dX8_spread_44 rfl (lv_at hl 2 rfl) ?_
      obtain ⟨o30, h30, hf⟩ := g_bnd hf
      refine gs_callVv (ws' := w_X8_spread cI cZ cJ a_t a_t_parameters a_t_length a_t_now a_t_table a_t_met a_t_any a_t_number a_t_outAny a_t_out a_t_newLength a_t_first a_t_anew a_t_inputs a_t_at a_t_in a_t_back a_t_register a_t_output a_t_calls a_t_latest a_t_differ t_code t_own t_count t_tableSize t_given t_known o30.1 t_depth t_steps t_taken t_shown t_outcome t_parameters t_length t_now t_table o30.2.1 o30.2.2.1 o30.2.2.2.1 o30.2.2.2.2.1 o30.2.2.2.2.2) hC hW (k_X8_callAll l tA dC dI cI cZ cJ a_t a_t_parameters a_t_length a_t_now a_t_table a_t_met a_t_any a_t_number a_t_outAny a_t_out a_t_newLength a_t_first a_t_anew a_t_inputs a_t_at a_t_in a_t_back a_t_register a_t_output a_t_calls a_t_latest a_t_differ N ((96 * x1) + (6 * x2)) ((17 * x1) + x2) t_code t_own t_count t_tableSize t_given t_known t_news t_depth t_steps t_taken t_shown t_outcome t_parameters t_length t_now t_table t_met t_any t_number t_outAny t_out _ h30) yk_X8_callAll lk_X8_143 iv_X8_callAll ⟨rfl, rfl⟩ ⟨Nat.le_of_ble_eq_true rfl, Nat.le_of_ble_eq_true rfl⟩ hl.1 0 rfl rfl [0, 1, 2, 3, 4, 5, 6, 7, 8, 9] [] [0, 1, 2, 3, 4, 5, 6, 7, 8, 9] rfl rfl rfl rfl (by decide) rfl rfl rfl rfl (Nat.le_of_ble_eq_true rfl) dX8_spread_45 ⟨Nat.zero_le _, Nat.zero_le _⟩ (fun H locs hW => ?_)
      exact b_X8_spread_48 hC hf hW (lv_sub hl [3, 4, 5, 2, 1, 0] rfl)

abbrev w_X8_learn (cI cZ cJ : ClassId) (a_t : Nat) (a_t_parameters : Nat) (a_t_length : Nat) (a_t_now : Nat) (a_t_table : Nat) (a_t_met : Nat) (a_t_any : Nat) (a_t_number : Nat) (a_t_outAny : Nat) (a_t_out : Nat) (a_t_newLength : Nat) (a_t_first : Nat) (a_t_anew : Nat) (a_t_inputs : Nat) (a_t_at : Nat) (a_t_in : Nat) (a_t_back : Nat) (a_t_register : Nat) (a_t_output : Nat) (a_t_calls : Nat) (a_t_latest : Nat) (a_t_differ : Nat) (t_code : Int32) (t_own : Int32) (t_count : Int32) (t_tableSize : Int32) (t_given : Int32) (t_known : Int32) (t_news : Int32) (t_depth : Int32) (t_steps : Int32) (t_taken : Int32) (t_shown : Int32) (t_outcome : Int32) (t_parameters : Nat → Int32) (t_length : Nat → Int32) (t_now : Nat → Int32) (t_table : Nat → Int32) (t_met : Nat → Int32) (t_any : Nat → Int32) (t_number : Nat → Int32) (t_outAny : Nat → Int32) (t_out : Nat → Int32) : va_W := [(a_t, .inr (8, [.int t_code, .int t_own, .int t_count, .ref a_t_parameters, .ref a_t_length, .ref a_t_newLength, .ref a_t_first, .ref a_t_now, .ref a_t_anew, .int t_tableSize, .ref a_t_table, .int t_given, .ref a_t_inputs, .int t_known, .ref a_t_met, .ref a_t_any, .ref a_t_number, .int t_news, .ref a_t_outAny, .ref a_t_out, .int t_depth, .int t_steps, .int t_taken, .int t_shown, .ref a_t_at, .ref a_t_in, .ref a_t_back, .ref a_t_register, .ref a_t_output, .ref a_t_calls, .ref a_t_latest, .ref a_t_differ, .int t_outcome])), (a_t_parameters, .inl (cI, 12, .inl t_parameters)), (a_t_length, .inl (cI, 12, .inl t_length)), (a_t_now, .inl (cI, 1152, .inl t_now)), (a_t_table, .inl (cI, 4, .inl t_table)), (a_t_met, .inl (cZ, 204, .inl t_met)), (a_t_any, .inl (cZ, 1224, .inl t_any)), (a_t_number, .inl (cI, 1224, .inl t_number)), (a_t_outAny, .inl (cZ, 6, .inl t_outAny)), (a_t_out, .inl (cI, 6, .inl t_out))]
abbrev r_X8_learn : Room := { frames := 5, cells := 0, slots := 0, locals := 120 }
def f_X8_learn_112 (N : Nat) (k98 : Int32 → (Nat → Int32) → (Nat → Int32) → (Nat → Int32) → (Nat → Int32) → (Nat → Int32) → Option (Int32 × (Nat → Int32) × (Nat → Int32) × (Nat → Int32) × (Nat → Int32) × (Nat → Int32))) (t_count : Int32) (t_tableSize : Int32) (t_parameters : Nat → Int32) (t_length : Nat → Int32) (t_now : Nat → Int32) (t_table : Nat → Int32) : Nat → Int32 → Int32 → (Nat → Int32) → (Nat → Int32) → (Nat → Int32) → (Nat → Int32) → (Nat → Int32) → Option (Int32 × (Nat → Int32) × (Nat → Int32) × (Nat → Int32) × (Nat → Int32) × (Nat → Int32))
  | 0, _, _, _, _, _, _, _ => none
  | n + 1, x1, t_news, t_met, t_any, t_number, t_outAny, t_out => if (16 * t_count) ≤ x1 then k98 t_news t_met t_any t_number t_outAny t_out else (g_dv x1 16).bind (fun v2 => (g_rm x1 16).bind (fun v3 => (g_rd 12 t_length v2).bind (fun v4 => if v4 ≤ v3 then f_X8_learn_112 N k98 t_count t_tableSize t_parameters t_length t_now t_table n (x1 + 1) t_news t_met t_any t_number t_outAny t_out else (g_rd 204 t_met ((17 * v2) + v3)).bind (fun v6 => if v6 = 0 then f_X8_learn_112 N k98 t_count t_tableSize t_parameters t_length t_now t_table n (x1 + 1) t_news t_met t_any t_number t_outAny t_out else (f_X8_spread N v2 v3 t_tableSize t_news t_parameters t_length t_now t_table t_met t_any t_number t_outAny t_out).bind (fun o8 => f_X8_learn_112 N k98 t_count t_tableSize t_parameters t_length t_now t_table n (x1 + 1) o8.1 o8.2.1 o8.2.2.1 o8.2.2.2.1 o8.2.2.2.2.1 o8.2.2.2.2.2)))))
set_option maxHeartbeats 4000000 in
set_option maxRecDepth 100000 in
theorem b_X8_learn_112 {p : Program} {l : Launch} {e : Env} {s : State} {m : MethodId} {args : Array Value} {below : List Frame} {meth : Method} {c : Code} {tA : Nat} {dC : Nat → ClassId} {dI : Nat → Nat → Nat} {cI cZ cJ : ClassId} {A : Nat → Prop} {a_t : Nat} {a_t_parameters : Nat} {a_t_length : Nat} {a_t_now : Nat} {a_t_table : Nat} {a_t_met : Nat} {a_t_any : Nat} {a_t_number : Nat} {a_t_outAny : Nat} {a_t_out : Nat} {a_t_newLength : Nat} {a_t_first : Nat} {a_t_anew : Nat} {a_t_inputs : Nat} {a_t_at : Nat} {a_t_in : Nat} {a_t_back : Nat} {a_t_register : Nat} {a_t_output : Nat} {a_t_calls : Nat} {a_t_latest : Nat} {a_t_differ : Nat} {t_count : Int32} {t_tableSize : Int32} {t_parameters : Nat → Int32} {t_length : Nat → Int32} {t_now : Nat → Int32} {t_table : Nat → Int32} {t_code : Int32} {t_own : Int32} {t_given : Int32} {t_known : Int32} {t_depth : Int32} {t_steps : Int32} {t_taken : Int32} {t_shown : Int32} {t_outcome : Int32} {N : Nat} {k98 : Int32 → (Nat → Int32) → (Nat → Int32) → (Nat → Int32) → (Nat → Int32) → (Nat → Int32) → Option (Int32 × (Nat → Int32) × (Nat → Int32) × (Nat → Int32) × (Nat → Int32) × (Nat → Int32))} (hC : g_C p s m meth c args cX8_learn 4 (none : Option Jvm.ClassFile.FieldType) RX8) (hk98 : ∀ (t_news : Int32) (t_met : Nat → Int32) (t_any : Nat → Int32) (t_number : Nat → Int32) (t_outAny : Nat → Int32) (t_out : Nat → Int32) (out : Int32 × (Nat → Int32) × (Nat → Int32) × (Nat → Int32) × (Nat → Int32) × (Nat → Int32)), k98 t_news t_met t_any t_number t_outAny t_out = some out → ∀ (H : Heap) (locs : List Loc) (ls : Array Slot), g_W tA dC dI cI cZ cJ A s H locs (w_X8_learn cI cZ cJ a_t a_t_parameters a_t_length a_t_now a_t_table a_t_met a_t_any a_t_number a_t_outAny a_t_out a_t_newLength a_t_first a_t_anew a_t_inputs a_t_at a_t_in a_t_back a_t_register a_t_output a_t_calls a_t_latest a_t_differ t_code t_own t_count t_tableSize t_given t_known t_news t_depth t_steps t_taken t_shown t_outcome t_parameters t_length t_now t_table t_met t_any t_number t_outAny t_out) → lv_has ls 4 [(0, .ref a_t)] → W p l e r_X8_learn s m args below meth c H locs 0 0 (MQ below (g_Qv dC dI cI cZ cJ A (w_X8_learn cI cZ cJ a_t a_t_parameters a_t_length a_t_now a_t_table a_t_met a_t_any a_t_number a_t_outAny a_t_out a_t_newLength a_t_first a_t_anew a_t_inputs a_t_at a_t_in a_t_back a_t_register a_t_output a_t_calls a_t_latest a_t_differ t_code t_own t_count t_tableSize t_given t_known out.1 t_depth t_steps t_taken t_shown t_outcome t_parameters t_length t_now t_table out.2.1 out.2.2.1 out.2.2.2.1 out.2.2.2.2.1 out.2.2.2.2.2)) args s 0 0 A) (F0 m 98 ls [])) :
    ∀ (n : Nat) (x1 : Int32) (t_news : Int32) (t_met : Nat → Int32) (t_any : Nat → Int32) (t_number : Nat → Int32) (t_outAny : Nat → Int32) (t_out : Nat → Int32) (out : Int32 × (Nat → Int32) × (Nat → Int32) × (Nat → Int32) × (Nat → Int32) × (Nat → Int32)), f_X8_learn_112 N k98 t_count t_tableSize t_parameters t_length t_now t_table n x1 t_news t_met t_any t_number t_outAny t_out = some out → ∀ (H : Heap) (locs : List Loc) (ls : Array Slot), g_W tA dC dI cI cZ cJ A s H locs (w_X8_learn cI cZ cJ a_t a_t_parameters a_t_length a_t_now a_t_table a_t_met a_t_any a_t_number a_t_outAny a_t_out a_t_newLength a_t_first a_t_anew a_t_inputs a_t_at a_t_in a_t_back a_t_register a_t_output a_t_calls a_t_latest a_t_differ t_code t_own t_count t_tableSize t_given t_known t_news t_depth t_steps t_taken t_shown t_outcome t_parameters t_length t_now t_table t_met t_any t_number t_outAny t_out) → lv_has ls 4 [(0, .ref a_t), (1, .int x1)] → W p l e r_X8_learn s m args below meth c H locs 0 0 (MQ below (g_Qv dC dI cI cZ cJ A (w_X8_learn cI cZ cJ a_t a_t_parameters a_t_length a_t_now a_t_table a_t_met a_t_any a_t_number a_t_outAny a_t_out a_t_newLength a_t_first a_t_anew a_t_inputs a_t_at a_t_in a_t_back a_t_register a_t_output a_t_calls a_t_latest a_t_differ t_code t_own t_count t_tableSize t_given t_known out.1 t_depth t_steps t_taken t_shown t_outcome t_parameters t_length t_now t_table out.2.1 out.2.2.1 out.2.2.2.1 out.2.2.2.2.1 out.2.2.2.2.2)) args s 0 0 A) (F0 m 112 ls []) := by
  have hx := hC.1
  have hb := hC.2.1
  have hown := hC.2.2.2.2.1
  have hts := hC.2.2.2.2.2.1
  intro n
  induction n with
  | zero =>
    intro x1 t_news t_met t_any t_number t_outAny t_out out hf
    exact g_no hf
  | succ n ih =>
    intro x1 t_news t_met t_any t_number t_outAny t_out out hf H locs ls hW hl
    refine lv_iload_n hx hb dX8_learn_112 rfl (lv_at hl 1 rfl) ?_
    refine lv_bipush (v := 16) hx hb dX8_learn_113 (by decide) ?_
    refine lv_aload_n hx hb dX8_learn_115 rfl (lv_at hl 0 rfl) ?_
    refine gs_get hC hW in_X8 0 2 rfl rfl (by decide) fl_X8_85 rfl dX8_learn_116 ?_
    refine lv_imul hx hb dX8_learn_119 ?_
    refine lv_icmp_ge (tgt := 169) hx hb dX8_learn_120 (by decide) (fun c1 => ?_) (fun c1 => ?_)
    · replace hf := (if_pos c1).symm.trans hf
      refine lv_goto (tgt := 98) hx hb dX8_learn_169 (by decide) ?_
      exact hk98 _ _ _ _ _ _ _ hf _ _ _ hW (lv_sub hl [0] rfl)
    · replace hf := (if_neg c1).symm.trans hf
      refine lv_iload_n hx hb dX8_learn_123 rfl (lv_at hl 1 rfl) ?_
      refine lv_bipush (v := 16) hx hb dX8_learn_124 (by decide) ?_
      obtain ⟨v2, h2, hf⟩ := g_bnd hf
      refine gs_idiv hC h2 dX8_learn_126 ?_
      refine lv_istore_n (lv' := [(2, .int v2), (0, .ref a_t), (1, .int x1)]) hx hb dX8_learn_127 rfl hl (by decide) rfl (fun ls hl => ?_)
      refine lv_iload_n hx hb dX8_learn_128 rfl (lv_at hl 2 rfl) ?_
      refine lv_bipush (v := 16) hx hb dX8_learn_129 (by decide) ?_
      obtain ⟨v3, h3, hf⟩ := g_bnd hf
      refine gs_irem hC h3 dX8_learn_131 ?_
      refine lv_istore_n (lv' := [(3, .int v3), (2, .int v2), (0, .ref a_t), (1, .int x1)]) hx hb dX8_learn_132 rfl hl (by decide) rfl (fun ls hl => ?_)
      refine lv_iload_n hx hb dX8_learn_133 rfl (lv_at hl 0 rfl) ?_
      refine lv_aload_n hx hb dX8_learn_134 rfl (lv_at hl 2 rfl) ?_
      refine gs_get hC hW in_X8 0 4 rfl rfl (by decide) fl_X8_13 rfl dX8_learn_135 ?_
      refine lv_iload_n hx hb dX8_learn_138 rfl (lv_at hl 1 rfl) ?_
      obtain ⟨v4, h4, hf⟩ := g_bnd hf
      refine gs_iald hC hW 2 h4 rfl dX8_learn_139 ?_
      refine lv_icmp_ge (tgt := 163) hx hb dX8_learn_140 (by decide) (fun c5 => ?_) (fun c5 => ?_)
      · replace hf := (if_pos c5).symm.trans hf
        refine lv_iinc (v := x1 + 1) (lv' := [(1, .int (x1 + 1)), (3, .int v3), (2, .int v2), (0, .ref a_t)]) hx hb dX8_learn_163 hl (k := 3) rfl rfl (by decide) rfl (fun ls hl => ?_)
        refine lv_goto (tgt := 112) hx hb dX8_learn_166 (by decide) ?_
        exact ih _ _ _ _ _ _ _ _ hf _ _ _ hW (lv_sub hl [3, 0] rfl)
      · replace hf := (if_neg c5).symm.trans hf
        refine lv_aload_n hx hb dX8_learn_143 rfl (lv_at hl 2 rfl) ?_
        refine gs_get hC hW in_X8 0 14 rfl rfl (by decide) fl_X8_34 rfl dX8_learn_144 ?_
        refine lv_bipush (v := 17) hx hb dX8_learn_147 (by decide) ?_
        refine lv_iload_n hx hb dX8_learn_149 rfl (lv_at hl 1 rfl) ?_
        refine lv_imul hx hb dX8_learn_150 ?_
        refine lv_iload_n hx hb dX8_learn_151 rfl (lv_at hl 0 rfl) ?_
        refine lv_iadd hx hb dX8_learn_152 ?_
        obtain ⟨v6, h6, hf⟩ := g_bnd hf
        refine gs_zald hC hW 5 h6 rfl dX8_learn_153 ?_
        refine lv_if_eq (tgt := 163) hx hb dX8_learn_154 (by decide) (fun c7 => ?_) (fun c7 => ?_)
        · replace hf := (if_pos c7).symm.trans hf
          refine lv_iinc (v := x1 + 1) (lv' := [(1, .int (x1 + 1)), (3, .int v3), (2, .int v2), (0, .ref a_t)]) hx hb dX8_learn_163 hl (k := 3) rfl rfl (by decide) rfl (fun ls hl => ?_)
          refine lv_goto (tgt := 112) hx hb dX8_learn_166 (by decide) ?_
          exact ih _ _ _ _ _ _ _ _ hf _ _ _ hW (lv_sub hl [3, 0] rfl)
        · replace hf := (if_neg c7).symm.trans hf
          refine lv_aload_n hx hb dX8_learn_157 rfl (lv_at hl 2 rfl) ?_
          refine lv_iload_n hx hb dX8_learn_158 rfl (lv_at hl 1 rfl) ?_
          refine lv_iload_n hx hb dX8_learn_159 rfl (lv_at hl 0 rfl) ?_
          obtain ⟨o8, h8, hf⟩ := g_bnd hf
          refine gs_callVv (ws' := w_X8_learn cI cZ cJ a_t a_t_parameters a_t_length a_t_now a_t_table a_t_met a_t_any a_t_number a_t_outAny a_t_out a_t_newLength a_t_first a_t_anew a_t_inputs a_t_at a_t_in a_t_back a_t_register a_t_output a_t_calls a_t_latest a_t_differ t_code t_own t_count t_tableSize t_given t_known o8.1 t_depth t_steps t_taken t_shown t_outcome t_parameters t_length t_now t_table o8.2.1 o8.2.2.1 o8.2.2.2.1 o8.2.2.2.2.1 o8.2.2.2.2.2) hC hW (k_X8_spread l tA dC dI cI cZ cJ a_t a_t_parameters a_t_length a_t_now a_t_table a_t_met a_t_any a_t_number a_t_outAny a_t_out a_t_newLength a_t_first a_t_anew a_t_inputs a_t_at a_t_in a_t_back a_t_register a_t_output a_t_calls a_t_latest a_t_differ N v2 v3 t_code t_own t_count t_tableSize t_given t_known t_news t_depth t_steps t_taken t_shown t_outcome t_parameters t_length t_now t_table t_met t_any t_number t_outAny t_out _ h8) yk_X8_spread lk_X8_149 iv_X8_spread ⟨rfl, rfl⟩ ⟨Nat.le_of_ble_eq_true rfl, Nat.le_of_ble_eq_true rfl⟩ hl.1 0 rfl rfl [0, 1, 2, 3, 4, 5, 6, 7, 8, 9] [] [0, 1, 2, 3, 4, 5, 6, 7, 8, 9] rfl rfl rfl rfl (by decide) rfl rfl rfl rfl (Nat.le_of_ble_eq_true rfl) dX8_learn_160 ⟨Nat.zero_le _, Nat.zero_le _⟩ (fun H locs hW => ?_)
          refine lv_iinc (v := x1 + 1) (lv' := [(1, .int (x1 + 1)), (3, .int v3), (2, .int v2), (0, .ref a_t)]) hx hb dX8_learn_163 hl (k := 3) rfl rfl (by decide) rfl (fun ls hl => ?_)
          refine lv_goto (tgt := 112) hx hb dX8_learn_166 (by decide) ?_
          exact ih _ _ _ _ _ _ _ _ hf _ _ _ hW (lv_sub hl [3, 0] rfl)
def f_X8_learn_98 (N : Nat) (t_count : Int32) (t_tableSize : Int32) (t_parameters : Nat → Int32) (t_length : Nat → Int32) (t_now : Nat → Int32) (t_table : Nat → Int32) : Nat → Int32 → (Nat → Int32) → (Nat → Int32) → (Nat → Int32) → (Nat → Int32) → (Nat → Int32) → Option (Int32 × (Nat → Int32) × (Nat → Int32) × (Nat → Int32) × (Nat → Int32) × (Nat → Int32))
  | 0, _, _, _, _, _, _ => none
  | n + 1, t_news, t_met, t_any, t_number, t_outAny, t_out => if t_news = 0 then some (t_news, t_met, t_any, t_number, t_outAny, t_out) else f_X8_learn_112 N (f_X8_learn_98 N t_count t_tableSize t_parameters t_length t_now t_table n) t_count t_tableSize t_parameters t_length t_now t_table N 0 0 t_met t_any t_number t_outAny t_out
set_option maxHeartbeats 4000000 in
set_option maxRecDepth 100000 in
theorem b_X8_learn_98 {p : Program} {l : Launch} {e : Env} {s : State} {m : MethodId} {args : Array Value} {below : List Frame} {meth : Method} {c : Code} {tA : Nat} {dC : Nat → ClassId} {dI : Nat → Nat → Nat} {cI cZ cJ : ClassId} {A : Nat → Prop} {a_t : Nat} {a_t_parameters : Nat} {a_t_length : Nat} {a_t_now : Nat} {a_t_table : Nat} {a_t_met : Nat} {a_t_any : Nat} {a_t_number : Nat} {a_t_outAny : Nat} {a_t_out : Nat} {a_t_newLength : Nat} {a_t_first : Nat} {a_t_anew : Nat} {a_t_inputs : Nat} {a_t_at : Nat} {a_t_in : Nat} {a_t_back : Nat} {a_t_register : Nat} {a_t_output : Nat} {a_t_calls : Nat} {a_t_latest : Nat} {a_t_differ : Nat} {t_count : Int32} {t_tableSize : Int32} {t_parameters : Nat → Int32} {t_length : Nat → Int32} {t_now : Nat → Int32} {t_table : Nat → Int32} {t_code : Int32} {t_own : Int32} {t_given : Int32} {t_known : Int32} {t_depth : Int32} {t_steps : Int32} {t_taken : Int32} {t_shown : Int32} {t_outcome : Int32} {N : Nat} (hC : g_C p s m meth c args cX8_learn 4 (none : Option Jvm.ClassFile.FieldType) RX8) :
    ∀ (n : Nat) (t_news : Int32) (t_met : Nat → Int32) (t_any : Nat → Int32) (t_number : Nat → Int32) (t_outAny : Nat → Int32) (t_out : Nat → Int32) (out : Int32 × (Nat → Int32) × (Nat → Int32) × (Nat → Int32) × (Nat → Int32) × (Nat → Int32)), f_X8_learn_98 N t_count t_tableSize t_parameters t_length t_now t_table n t_news t_met t_any t_number t_outAny t_out = some out → ∀ (H : Heap) (locs : List Loc) (ls : Array Slot), g_W tA dC dI cI cZ cJ A s H locs (w_X8_learn cI cZ cJ a_t a_t_parameters a_t_length a_t_now a_t_table a_t_met a_t_any a_t_number a_t_outAny a_t_out a_t_newLength a_t_first a_t_anew a_t_inputs a_t_at a_t_in a_t_back a_t_register a_t_output a_t_calls a_t_latest a_t_differ t_code t_own t_count t_tableSize t_given t_known t_news t_depth t_steps t_taken t_shown t_outcome t_parameters t_length t_now t_table t_met t_any t_number t_outAny t_out) → lv_has ls 4 [(0, .ref a_t)] → W p l e r_X8_learn s m args below meth c H locs 0 0 (MQ below (g_Qv dC dI cI cZ cJ A (w_X8_learn cI cZ cJ a_t a_t_parameters a_t_length a_t_now a_t_table a_t_met a_t_any a_t_number a_t_outAny a_t_out a_t_newLength a_t_first a_t_anew a_t_inputs a_t_at a_t_in a_t_back a_t_register a_t_output a_t_calls a_t_latest a_t_differ t_code t_own t_count t_tableSize t_given t_known out.1 t_depth t_steps t_taken t_shown t_outcome t_parameters t_length t_now t_table out.2.1 out.2.2.1 out.2.2.2.1 out.2.2.2.2.1 out.2.2.2.2.2)) args s 0 0 A) (F0 m 98 ls []) := by
  have hx := hC.1
  have hb := hC.2.1
  have hown := hC.2.2.2.2.1
  have hts := hC.2.2.2.2.2.1
  intro n
  induction n with
  | zero =>
    intro t_news t_met t_any t_number t_outAny t_out out hf
    exact g_no hf
  | succ n ih =>
    intro t_news t_met t_any t_number t_outAny t_out out hf H locs ls hW hl
    refine lv_aload_n hx hb dX8_learn_98 rfl (lv_at hl 0 rfl) ?_
    refine gs_get hC hW in_X8 0 17 rfl rfl (by decide) fl_X8_115 rfl dX8_learn_99 ?_
    refine lv_if_eq (tgt := 172) hx hb dX8_learn_102 (by decide) (fun c9 => ?_) (fun c9 => ?_)
    · replace hf := (if_pos c9).symm.trans hf
      obtain rfl := Option.some.inj hf
      exact gs_rv hC hW rfl dX8_learn_172
    · replace hf := (if_neg c9).symm.trans hf
      refine lv_aload_n hx hb dX8_learn_105 rfl (lv_at hl 0 rfl) ?_
      refine lv_iconst (v := 0) hx hb dX8_learn_106 (by decide) ?_
      refine gs_put (ws' := w_X8_learn cI cZ cJ a_t a_t_parameters a_t_length a_t_now a_t_table a_t_met a_t_any a_t_number a_t_outAny a_t_out a_t_newLength a_t_first a_t_anew a_t_inputs a_t_at a_t_in a_t_back a_t_register a_t_output a_t_calls a_t_latest a_t_differ t_code t_own t_count t_tableSize t_given t_known 0 t_depth t_steps t_taken t_shown t_outcome t_parameters t_length t_now t_table t_met t_any t_number t_outAny t_out) hC hW in_X8 tyX8_ok nmX8 0 17 rfl rfl (by decide) fl_X8_115 rfl (by decide) (by decide) (Nat.le_of_ble_eq_true rfl) rfl dX8_learn_107 (fun H locs hW => ?_)
      refine lv_iconst (v := 0) hx hb dX8_learn_110 (by decide) ?_
      refine lv_istore_n (lv' := [(1, .int 0), (0, .ref a_t)]) hx hb dX8_learn_111 rfl hl (by decide) rfl (fun ls hl => ?_)
      exact b_X8_learn_112 hC ih N _ _ _ _ _ _ _ _ hf _ _ _ hW (lv_sub hl [1, 0] rfl)
def f_X8_learn_61 (N : Nat) (t_count : Int32) (t_tableSize : Int32) (t_parameters : Nat → Int32) (t_length : Nat → Int32) (t_now : Nat → Int32) (t_table : Nat → Int32) : Nat → Int32 → Int32 → (Nat → Int32) → (Nat → Int32) → (Nat → Int32) → (Nat → Int32) → (Nat → Int32) → Option (Int32 × (Nat → Int32) × (Nat → Int32) × (Nat → Int32) × (Nat → Int32) × (Nat → Int32))
  | 0, _, _, _, _, _, _, _ => none
  | n + 1, x1, t_news, t_met, t_any, t_number, t_outAny, t_out => if 6 ≤ x1 then (f_X8_come N 0 0 t_news t_length t_met t_any t_number t_outAny t_out).bind (fun o11 => f_X8_learn_98 N t_count t_tableSize t_parameters t_length t_now t_table N 1 o11.2.1 o11.2.2.1 o11.2.2.2 t_outAny t_out) else (g_wz 6 t_outAny x1 0).bind (fun s12 => (g_wr 6 t_out x1 0).bind (fun s13 => f_X8_learn_61 N t_count t_tableSize t_parameters t_length t_now t_table n (x1 + 1) t_news t_met t_any t_number s12 s13))
set_option maxHeartbeats 4000000 in
set_option maxRecDepth 100000 in
theorem b_X8_learn_61 {p : Program} {l : Launch} {e : Env} {s : State} {m : MethodId} {args : Array Value} {below : List Frame} {meth : Method} {c : Code} {tA : Nat} {dC : Nat → ClassId} {dI : Nat → Nat → Nat} {cI cZ cJ : ClassId} {A : Nat → Prop} {a_t : Nat} {a_t_parameters : Nat} {a_t_length : Nat} {a_t_now : Nat} {a_t_table : Nat} {a_t_met : Nat} {a_t_any : Nat} {a_t_number : Nat} {a_t_outAny : Nat} {a_t_out : Nat} {a_t_newLength : Nat} {a_t_first : Nat} {a_t_anew : Nat} {a_t_inputs : Nat} {a_t_at : Nat} {a_t_in : Nat} {a_t_back : Nat} {a_t_register : Nat} {a_t_output : Nat} {a_t_calls : Nat} {a_t_latest : Nat} {a_t_differ : Nat} {t_count : Int32} {t_tableSize : Int32} {t_parameters : Nat → Int32} {t_length : Nat → Int32} {t_now : Nat → Int32} {t_table : Nat → Int32} {t_code : Int32} {t_own : Int32} {t_given : Int32} {t_known : Int32} {t_depth : Int32} {t_steps : Int32} {t_taken : Int32} {t_shown : Int32} {t_outcome : Int32} {N : Nat} (hC : g_C p s m meth c args cX8_learn 4 (none : Option Jvm.ClassFile.FieldType) RX8) :
    ∀ (n : Nat) (x1 : Int32) (t_news : Int32) (t_met : Nat → Int32) (t_any : Nat → Int32) (t_number : Nat → Int32) (t_outAny : Nat → Int32) (t_out : Nat → Int32) (out : Int32 × (Nat → Int32) × (Nat → Int32) × (Nat → Int32) × (Nat → Int32) × (Nat → Int32)), f_X8_learn_61 N t_count t_tableSize t_parameters t_length t_now t_table n x1 t_news t_met t_any t_number t_outAny t_out = some out → ∀ (H : Heap) (locs : List Loc) (ls : Array Slot), g_W tA dC dI cI cZ cJ A s H locs (w_X8_learn cI cZ cJ a_t a_t_parameters a_t_length a_t_now a_t_table a_t_met a_t_any a_t_number a_t_outAny a_t_out a_t_newLength a_t_first a_t_anew a_t_inputs a_t_at a_t_in a_t_back a_t_register a_t_output a_t_calls a_t_latest a_t_differ t_code t_own t_count t_tableSize t_given t_known t_news t_depth t_steps t_taken t_shown t_outcome t_parameters t_length t_now t_table t_met t_any t_number t_outAny t_out) → lv_has ls 4 [(0, .ref a_t), (1, .int x1)] → W p l e r_X8_learn s m args below meth c H locs 0 0 (MQ below (g_Qv dC dI cI cZ cJ A (w_X8_learn cI cZ cJ a_t a_t_parameters a_t_length a_t_now a_t_table a_t_met a_t_any a_t_number a_t_outAny a_t_out a_t_newLength a_t_first a_t_anew a_t_inputs a_t_at a_t_in a_t_back a_t_register a_t_output a_t_calls a_t_latest a_t_differ t_code t_own t_count t_tableSize t_given t_known out.1 t_depth t_steps t_taken t_shown t_outcome t_parameters t_length t_now t_table out.2.1 out.2.2.1 out.2.2.2.1 out.2.2.2.2.1 out.2.2.2.2.2)) args s 0 0 A) (F0 m 61 ls []) := by
  have hx := hC.1
  have hb := hC.2.1
  have hown := hC.2.2.2.2.1
  have hts := hC.2.2.2.2.2.1
  intro n
  induction n with
  | zero =>
    intro x1 t_news t_met t_any t_number t_outAny t_out out hf
    exact g_no hf
  | succ n ih =>
    intro x1 t_news t_met t_any t_number t_outAny t_out out hf H locs ls hW hl
    refine lv_iload_n hx hb dX8_learn_61 rfl (lv_at hl 1 rfl) ?_
    refine lv_bipush (v := 6) hx hb dX8_learn_62 (by decide) ?_
    refine lv_icmp_ge (tgt := 87) hx hb dX8_learn_64 (by decide) (fun c10 => ?_) (fun c10 => ?_)
    · replace hf := (if_pos c10).symm.trans hf
      refine lv_aload_n hx hb dX8_learn_87 rfl (lv_at hl 0 rfl) ?_
      refine lv_iconst (v := 0) hx hb dX8_learn_88 (by decide) ?_
      refine lv_iconst (v := 0) hx hb dX8_learn_89 (by decide) ?_
      obtain ⟨o11, h11, hf⟩ := g_bnd hf
      refine gs_callVv (ws' := w_X8_learn cI cZ cJ a_t a_t_parameters a_t_length a_t_now a_t_table a_t_met a_t_any a_t_number a_t_outAny a_t_out a_t_newLength a_t_first a_t_anew a_t_inputs a_t_at a_t_in a_t_back a_t_register a_t_output a_t_calls a_t_latest a_t_differ t_code t_own t_count t_tableSize t_given t_known o11.1 t_depth t_steps t_taken t_shown t_outcome t_parameters t_length t_now t_table o11.2.1 o11.2.2.1 o11.2.2.2 t_outAny t_out) hC hW (k_X8_come l tA dC dI cI cZ cJ a_t a_t_length a_t_met a_t_any a_t_number a_t_outAny a_t_out a_t_parameters a_t_newLength a_t_first a_t_now a_t_anew a_t_table a_t_inputs a_t_at a_t_in a_t_back a_t_register a_t_output a_t_calls a_t_latest a_t_differ N 0 0 t_code t_own t_count t_tableSize t_given t_known t_news t_depth t_steps t_taken t_shown t_outcome t_length t_met t_any t_number t_outAny t_out _ h11) yk_X8_come lk_X8_126 iv_X8_come ⟨rfl, rfl⟩ ⟨Nat.le_of_ble_eq_true rfl, Nat.le_of_ble_eq_true rfl⟩ hl.1 0 rfl rfl [0, 2, 5, 6, 7, 8, 9] [1, 3, 4] [3, 0, 4, 1, 2, 5, 6, 7, 8, 9] rfl rfl rfl rfl (by decide) rfl rfl rfl rfl (Nat.le_of_ble_eq_true rfl) dX8_learn_90 ⟨Nat.zero_le _, Nat.zero_le _⟩ (fun H locs hW => ?_)
      refine lv_aload_n hx hb dX8_learn_93 rfl (lv_at hl 0 rfl) ?_
      refine lv_iconst (v := 1) hx hb dX8_learn_94 (by decide) ?_
      refine gs_put (ws' := w_X8_learn cI cZ cJ a_t a_t_parameters a_t_length a_t_now a_t_table a_t_met a_t_any a_t_number a_t_outAny a_t_out a_t_newLength a_t_first a_t_anew a_t_inputs a_t_at a_t_in a_t_back a_t_register a_t_output a_t_calls a_t_latest a_t_differ t_code t_own t_count t_tableSize t_given t_known 1 t_depth t_steps t_taken t_shown t_outcome t_parameters t_length t_now t_table o11.2.1 o11.2.2.1 o11.2.2.2 t_outAny t_out) hC hW in_X8 tyX8_ok nmX8 0 17 rfl rfl (by decide) fl_X8_115 rfl (by decide) (by decide) (Nat.le_of_ble_eq_true rfl) rfl dX8_learn_95 (fun H locs hW => ?_)
      exact b_X8_learn_98 hC N _ _ _ _ _ _ _ hf _ _ _ hW (lv_sub hl [0] rfl)
    · replace hf := (if_neg c10).symm.trans hf
      refine lv_aload_n hx hb dX8_learn_67 rfl (lv_at hl 0 rfl) ?_
      refine gs_get hC hW in_X8 0 18 rfl rfl (by decide) fl_X8_44 rfl dX8_learn_68 ?_
      refine lv_iload_n hx hb dX8_learn_71 rfl (lv_at hl 1 rfl) ?_
      refine lv_iconst (v := 0) hx hb dX8_learn_72 (by decide) ?_
      obtain ⟨s12, h12, hf⟩ := g_bnd hf
      refine gs_zast (ws' := w_X8_learn cI cZ cJ a_t a_t_parameters a_t_length a_t_now a_t_table a_t_met a_t_any a_t_number a_t_outAny a_t_out a_t_newLength a_t_first a_t_anew a_t_inputs a_t_at a_t_in a_t_back a_t_register a_t_output a_t_calls a_t_latest a_t_differ t_code t_own t_count t_tableSize t_given t_known t_news t_depth t_steps t_taken t_shown t_outcome t_parameters t_length t_now t_table t_met t_any t_number s12 t_out) hC hW 8 h12 rfl rfl dX8_learn_73 (fun H locs hW => ?_)
      refine lv_aload_n hx hb dX8_learn_74 rfl (lv_at hl 0 rfl) ?_
      refine gs_get hC hW in_X8 0 19 rfl rfl (by decide) fl_X8_47 rfl dX8_learn_75 ?_
      refine lv_iload_n hx hb dX8_learn_78 rfl (lv_at hl 1 rfl) ?_
      refine lv_iconst (v := 0) hx hb dX8_learn_79 (by decide) ?_
      obtain ⟨s13, h13, hf⟩ := g_bnd hf
      refine gs_iast (ws' := w_X8_learn cI cZ cJ a_t a_t_parameters a_t_length a_t_now a_t_table a_t_met a_t_any a_t_number a_t_outAny a_t_out a_t_newLength a_t_first a_t_anew a_t_inputs a_t_at a_t_in a_t_back a_t_register a_t_output a_t_calls a_t_latest a_t_differ t_code t_own t_count t_tableSize t_given t_known t_news t_depth t_steps t_taken t_shown t_outcome t_parameters t_length t_now t_table t_met t_any t_number s12 s13) hC hW 9 h13 rfl rfl dX8_learn_80 (fun H locs hW => ?_)
      refine lv_iinc (v := x1 + 1) (lv' := [(1, .int (x1 + 1)), (0, .ref a_t)]) hx hb dX8_learn_81 hl (k := 1) rfl rfl (by decide) rfl (fun ls hl => ?_)
      refine lv_goto (tgt := 61) hx hb dX8_learn_84 (by decide) ?_
      exact ih _ _ _ _ _ _ _ _ hf _ _ _ hW (lv_sub hl [1, 0] rfl)
def f_X8_learn_28 (N : Nat) (t_count : Int32) (t_tableSize : Int32) (t_parameters : Nat → Int32) (t_length : Nat → Int32) (t_now : Nat → Int32) (t_table : Nat → Int32) : Nat → Int32 → Int32 → (Nat → Int32) → (Nat → Int32) → (Nat → Int32) → (Nat → Int32) → (Nat → Int32) → Option (Int32 × (Nat → Int32) × (Nat → Int32) × (Nat → Int32) × (Nat → Int32) × (Nat → Int32))
  | 0, _, _, _, _, _, _, _ => none
  | n + 1, x1, t_news, t_met, t_any, t_number, t_outAny, t_out => if (102 * t_count) ≤ x1 then f_X8_learn_61 N t_count t_tableSize t_parameters t_length t_now t_table N 0 t_news t_met t_any t_number t_outAny t_out else (g_wz 1224 t_any x1 0).bind (fun s15 => (g_wr 1224 t_number x1 0).bind (fun s16 => f_X8_learn_28 N t_count t_tableSize t_parameters t_length t_now t_table n (x1 + 1) t_news t_met s15 s16 t_outAny t_out))
set_option maxHeartbeats 4000000 in
set_option maxRecDepth 100000 in
theorem b_X8_learn_28 {p : Program} {l : Launch} {e : Env} {s : State} {m : MethodId} {args : Array Value} {below : List Frame} {meth : Method} {c : Code} {tA : Nat} {dC : Nat → ClassId} {dI : Nat → Nat → Nat} {cI cZ cJ : ClassId} {A : Nat → Prop} {a_t : Nat} {a_t_parameters : Nat} {a_t_length : Nat} {a_t_now : Nat} {a_t_table : Nat} {a_t_met : Nat} {a_t_any : Nat} {a_t_number : Nat} {a_t_outAny : Nat} {a_t_out : Nat} {a_t_newLength : Nat} {a_t_first : Nat} {a_t_anew : Nat} {a_t_inputs : Nat} {a_t_at : Nat} {a_t_in : Nat} {a_t_back : Nat} {a_t_register : Nat} {a_t_output : Nat} {a_t_calls : Nat} {a_t_latest : Nat} {a_t_differ : Nat} {t_count : Int32} {t_tableSize : Int32} {t_parameters : Nat → Int32} {t_length : Nat → Int32} {t_now : Nat → Int32} {t_table : Nat → Int32} {t_code : Int32} {t_own : Int32} {t_given : Int32} {t_known : Int32} {t_depth : Int32} {t_steps : Int32} {t_taken : Int32} {t_shown : Int32} {t_outcome : Int32} {N : Nat} (hC : g_C p s m meth c args cX8_learn 4 (none : Option Jvm.ClassFile.FieldType) RX8) :
    ∀ (n : Nat) (x1 : Int32) (t_news : Int32) (t_met : Nat → Int32) (t_any : Nat → Int32) (t_number : Nat → Int32) (t_outAny : Nat → Int32) (t_out : Nat → Int32) (out : Int32 × (Nat → Int32) × (Nat → Int32) × (Nat → Int32) × (Nat → Int32) × (Nat → Int32)), f_X8_learn_28 N t_count t_tableSize t_parameters t_length t_now t_table n x1 t_news t_met t_any t_number t_outAny t_out = some out → ∀ (H : Heap) (locs : List Loc) (ls : Array Slot), g_W tA dC dI cI cZ cJ A s H locs (w_X8_learn cI cZ cJ a_t a_t_parameters a_t_length a_t_now a_t_table a_t_met a_t_any a_t_number a_t_outAny a_t_out a_t_newLength a_t_first a_t_anew a_t_inputs a_t_at a_t_in a_t_back a_t_register a_t_output a_t_calls a_t_latest a_t_differ t_code t_own t_count t_tableSize t_given t_known t_news t_depth t_steps t_taken t_shown t_outcome t_parameters t_length t_now t_table t_met t_any t_number t_outAny t_out) → lv_has ls 4 [(0, .ref a_t), (1, .int x1)] → W p l e r_X8_learn s m args below meth c H locs 0 0 (MQ below (g_Qv dC dI cI cZ cJ A (w_X8_learn cI cZ cJ a_t a_t_parameters a_t_length a_t_now a_t_table a_t_met a_t_any a_t_number a_t_outAny a_t_out a_t_newLength a_t_first a_t_anew a_t_inputs a_t_at a_t_in a_t_back a_t_register a_t_output a_t_calls a_t_latest a_t_differ t_code t_own t_count t_tableSize t_given t_known out.1 t_depth t_steps t_taken t_shown t_outcome t_parameters t_length t_now t_table out.2.1 out.2.2.1 out.2.2.2.1 out.2.2.2.2.1 out.2.2.2.2.2)) args s 0 0 A) (F0 m 28 ls []) := by
  have hx := hC.1
  have hb := hC.2.1
  have hown := hC.2.2.2.2.1
  have hts := hC.2.2.2.2.2.1
  intro n
  induction n with
  | zero =>
    intro x1 t_news t_met t_any t_number t_outAny t_out out hf
    exact g_no hf
  | succ n ih =>
    intro x1 t_news t_met t_any t_number t_outAny t_out out hf H locs ls hW hl
    refine lv_iload_n hx hb dX8_learn_28 rfl (lv_at hl 1 rfl) ?_
    refine lv_bipush (v := 102) hx hb dX8_learn_29 (by decide) ?_
    refine lv_aload_n hx hb dX8_learn_31 rfl (lv_at hl 0 rfl) ?_
    refine gs_get hC hW in_X8 0 2 rfl rfl (by decide) fl_X8_85 rfl dX8_learn_32 ?_
    refine lv_imul hx hb dX8_learn_35 ?_
    refine lv_icmp_ge (tgt := 59) hx hb dX8_learn_36 (by decide) (fun c14 => ?_) (fun c14 => ?_)
    · replace hf := (if_pos c14).symm.trans hf
      refine lv_iconst (v := 0) hx hb dX8_learn_59 (by decide) ?_
      refine lv_istore_n (lv' := [(1, .int 0), (0, .ref a_t)]) hx hb dX8_learn_60 rfl hl (by decide) rfl (fun ls hl => ?_)
      exact b_X8_learn_61 hC N _ _ _ _ _ _ _ _ hf _ _ _ hW (lv_sub hl [1, 0] rfl)
    · replace hf := (if_neg c14).symm.trans hf
      refine lv_aload_n hx hb dX8_learn_39 rfl (lv_at hl 0 rfl) ?_
      refine gs_get hC hW in_X8 0 15 rfl rfl (by decide) fl_X8_38 rfl dX8_learn_40 ?_
      refine lv_iload_n hx hb dX8_learn_43 rfl (lv_at hl 1 rfl) ?_
      refine lv_iconst (v := 0) hx hb dX8_learn_44 (by decide) ?_
      obtain ⟨s15, h15, hf⟩ := g_bnd hf
      refine gs_zast (ws' := w_X8_learn cI cZ cJ a_t a_t_parameters a_t_length a_t_now a_t_table a_t_met a_t_any a_t_number a_t_outAny a_t_out a_t_newLength a_t_first a_t_anew a_t_inputs a_t_at a_t_in a_t_back a_t_register a_t_output a_t_calls a_t_latest a_t_differ t_code t_own t_count t_tableSize t_given t_known t_news t_depth t_steps t_taken t_shown t_outcome t_parameters t_length t_now t_table t_met s15 t_number t_outAny t_out) hC hW 6 h15 rfl rfl dX8_learn_45 (fun H locs hW => ?_)
      refine lv_aload_n hx hb dX8_learn_46 rfl (lv_at hl 0 rfl) ?_
      refine gs_get hC hW in_X8 0 16 rfl rfl (by decide) fl_X8_41 rfl dX8_learn_47 ?_
      refine lv_iload_n hx hb dX8_learn_50 rfl (lv_at hl 1 rfl) ?_
      refine lv_iconst (v := 0) hx hb dX8_learn_51 (by decide) ?_
      obtain ⟨s16, h16, hf⟩ := g_bnd hf
      refine gs_iast (ws' := w_X8_learn cI cZ cJ a_t a_t_parameters a_t_length a_t_now a_t_table a_t_met a_t_any a_t_number a_t_outAny a_t_out a_t_newLength a_t_first a_t_anew a_t_inputs a_t_at a_t_in a_t_back a_t_register a_t_output a_t_calls a_t_latest a_t_differ t_code t_own t_count t_tableSize t_given t_known t_news t_depth t_steps t_taken t_shown t_outcome t_parameters t_length t_now t_table t_met s15 s16 t_outAny t_out) hC hW 7 h16 rfl rfl dX8_learn_52 (fun H locs hW => ?_)
      refine lv_iinc (v := x1 + 1) (lv' := [(1, .int (x1 + 1)), (0, .ref a_t)]) hx hb dX8_learn_53 hl (k := 1) rfl rfl (by decide) rfl (fun ls hl => ?_)
      refine lv_goto (tgt := 28) hx hb dX8_learn_56 (by decide) ?_
      exact ih _ _ _ _ _ _ _ _ hf _ _ _ hW (lv_sub hl [1, 0] rfl)
def f_X8_learn_2 (N : Nat) (t_count : Int32) (t_tableSize : Int32) (t_parameters : Nat → Int32) (t_length : Nat → Int32) (t_now : Nat → Int32) (t_table : Nat → Int32) : Nat → Int32 → Int32 → (Nat → Int32) → (Nat → Int32) → (Nat → Int32) → (Nat → Int32) → (Nat → Int32) → Option (Int32 × (Nat → Int32) × (Nat → Int32) × (Nat → Int32) × (Nat → Int32) × (Nat → Int32))
  | 0, _, _, _, _, _, _, _ => none
  | n + 1, x1, t_news, t_met, t_any, t_number, t_outAny, t_out => if (17 * t_count) ≤ x1 then f_X8_learn_28 N t_count t_tableSize t_parameters t_length t_now t_table N 0 t_news t_met t_any t_number t_outAny t_out else (g_wz 204 t_met x1 0).bind (fun s18 => f_X8_learn_2 N t_count t_tableSize t_parameters t_length t_now t_table n (x1 + 1) t_news s18 t_any t_number t_outAny t_out)
set_option maxHeartbeats 4000000 in
set_option maxRecDepth 100000 in
theorem b_X8_learn_2 {p : Program} {l : Launch} {e : Env} {s : State} {m : MethodId} {args : Array Value} {below : List Frame} {meth : Method} {c : Code} {tA : Nat} {dC : Nat → ClassId} {dI : Nat → Nat → Nat} {cI cZ cJ : ClassId} {A : Nat → Prop} {a_t : Nat} {a_t_parameters : Nat} {a_t_length : Nat} {a_t_now : Nat} {a_t_table : Nat} {a_t_met : Nat} {a_t_any : Nat} {a_t_number : Nat} {a_t_outAny : Nat} {a_t_out : Nat} {a_t_newLength : Nat} {a_t_first : Nat} {a_t_anew : Nat} {a_t_inputs : Nat} {a_t_at : Nat} {a_t_in : Nat} {a_t_back : Nat} {a_t_register : Nat} {a_t_output : Nat} {a_t_calls : Nat} {a_t_latest : Nat} {a_t_differ : Nat} {t_count : Int32} {t_tableSize : Int32} {t_parameters : Nat → Int32} {t_length : Nat → Int32} {t_now : Nat → Int32} {t_table : Nat → Int32} {t_code : Int32} {t_own : Int32} {t_given : Int32} {t_known : Int32} {t_depth : Int32} {t_steps : Int32} {t_taken : Int32} {t_shown : Int32} {t_outcome : Int32} {N : Nat} (hC : g_C p s m meth c args cX8_learn 4 (none : Option Jvm.ClassFile.FieldType) RX8) :
    ∀ (n : Nat) (x1 : Int32) (t_news : Int32) (t_met : Nat → Int32) (t_any : Nat → Int32) (t_number : Nat → Int32) (t_outAny : Nat → Int32) (t_out : Nat → Int32) (out : Int32 × (Nat → Int32) × (Nat → Int32) × (Nat → Int32) × (Nat → Int32) × (Nat → Int32)), f_X8_learn_2 N t_count t_tableSize t_parameters t_length t_now t_table n x1 t_news t_met t_any t_number t_outAny t_out = some out → ∀ (H : Heap) (locs : List Loc) (ls : Array Slot), g_W tA dC dI cI cZ cJ A s H locs (w_X8_learn cI cZ cJ a_t a_t_parameters a_t_length a_t_now a_t_table a_t_met a_t_any a_t_number a_t_outAny a_t_out a_t_newLength a_t_first a_t_anew a_t_inputs a_t_at a_t_in a_t_back a_t_register a_t_output a_t_calls a_t_latest a_t_differ t_code t_own t_count t_tableSize t_given t_known t_news t_depth t_steps t_taken t_shown t_outcome t_parameters t_length t_now t_table t_met t_any t_number t_outAny t_out) → lv_has ls 4 [(0, .ref a_t), (1, .int x1)] → W p l e r_X8_learn s m args below meth c H locs 0 0 (MQ below (g_Qv dC dI cI cZ cJ A (w_X8_learn cI cZ cJ a_t a_t_parameters a_t_length a_t_now a_t_table a_t_met a_t_any a_t_number a_t_outAny a_t_out a_t_newLength a_t_first a_t_anew a_t_inputs a_t_at a_t_in a_t_back a_t_register a_t_output a_t_calls a_t_latest a_t_differ t_code t_own t_count t_tableSize t_given t_known out.1 t_depth t_steps t_taken t_shown t_outcome t_parameters t_length t_now t_table out.2.1 out.2.2.1 out.2.2.2.1 out.2.2.2.2.1 out.2.2.2.2.2)) args s 0 0 A) (F0 m 2 ls []) := by
  have hx := hC.1
  have hb := hC.2.1
  have hown := hC.2.2.2.2.1
  have hts := hC.2.2.2.2.2.1
  intro n
  induction n with
  | zero =>
    intro x1 t_news t_met t_any t_number t_outAny t_out out hf
    exact g_no hf
  | succ n ih =>
    intro x1 t_news t_met t_any t_number t_outAny t_out out hf H locs ls hW hl
    refine lv_iload_n hx hb dX8_learn_2 rfl (lv_at hl 1 rfl) ?_
    refine lv_bipush (v := 17) hx hb dX8_learn_3 (by decide) ?_
    refine lv_aload_n hx hb dX8_learn_5 rfl (lv_at hl 0 rfl) ?_
    refine gs_get hC hW in_X8 0 2 rfl rfl (by decide) fl_X8_85 rfl dX8_learn_6 ?_
    refine lv_imul hx hb dX8_learn_9 ?_
    refine lv_icmp_ge (tgt := 26) hx hb dX8_learn_10 (by decide) (fun c17 => ?_) (fun c17 => ?_)
    · replace hf := (if_pos c17).symm.trans hf
      refine lv_iconst (v := 0) hx hb dX8_learn_26 (by decide) ?_
      refine lv_istore_n (lv' := [(1, .int 0), (0, .ref a_t)]) hx hb dX8_learn_27 rfl hl (by decide) rfl (fun ls hl => ?_)
      exact b_X8_learn_28 hC N _ _ _ _ _ _ _ _ hf _ _ _ hW (lv_sub hl [1, 0] rfl)
    · replace hf := (if_neg c17).symm.trans hf
      refine lv_aload_n hx hb dX8_learn_13 rfl (lv_at hl 0 rfl) ?_
      refine gs_get hC hW in_X8 0 14 rfl rfl (by decide) fl_X8_34 rfl dX8_learn_14 ?_
      refine lv_iload_n hx hb dX8_learn_17 rfl (lv_at hl 1 rfl) ?_
      refine lv_iconst (v := 0) hx hb dX8_learn_18 (by decide) ?_
      obtain ⟨s18, h18, hf⟩ := g_bnd hf
      refine gs_zast (ws' := w_X8_learn cI cZ cJ a_t a_t_parameters a_t_length a_t_now a_t_table a_t_met a_t_any a_t_number a_t_outAny a_t_out a_t_newLength a_t_first a_t_anew a_t_inputs a_t_at a_t_in a_t_back a_t_register a_t_output a_t_calls a_t_latest a_t_differ t_code t_own t_count t_tableSize t_given t_known t_news t_depth t_steps t_taken t_shown t_outcome t_parameters t_length t_now t_table s18 t_any t_number t_outAny t_out) hC hW 5 h18 rfl rfl dX8_learn_19 (fun H locs hW => ?_)
      refine lv_iinc (v := x1 + 1) (lv' := [(1, .int (x1 + 1)), (0, .ref a_t)]) hx hb dX8_learn_20 hl (k := 1) rfl rfl (by decide) rfl (fun ls hl => ?_)
      refine lv_goto (tgt := 2) hx hb dX8_learn_23 (by decide) ?_
      exact ih _ _ _ _ _ _ _ _ hf _ _ _ hW (lv_sub hl [1, 0] rfl)
def f_X8_learn (N : Nat) (t_count : Int32) (t_tableSize : Int32) (t_news : Int32) (t_parameters : Nat → Int32) (t_length : Nat → Int32) (t_now : Nat → Int32) (t_table : Nat → Int32) (t_met : Nat → Int32) (t_any : Nat → Int32) (t_number : Nat → Int32) (t_outAny : Nat → Int32) (t_out : Nat → Int32) : Option (Int32 × (Nat → Int32) × (Nat → Int32) × (Nat → Int32) × (Nat → Int32) × (Nat → Int32)) := f_X8_learn_2 N t_count t_tableSize t_parameters t_length t_now t_table N 0 t_news t_met t_any t_number t_outAny t_out
set_option maxHeartbeats 4000000 in
set_option maxRecDepth 100000 in
theorem k_X8_learn (l : Launch) (tA : Nat) (dC : Nat → ClassId) (dI : Nat → Nat → Nat) (cI cZ cJ : ClassId) (a_t : Nat) (a_t_parameters : Nat) (a_t_length : Nat) (a_t_now : Nat) (a_t_table : Nat) (a_t_met : Nat) (a_t_any : Nat) (a_t_number : Nat) (a_t_outAny : Nat) (a_t_out : Nat) (a_t_newLength : Nat) (a_t_first : Nat) (a_t_anew : Nat) (a_t_inputs : Nat) (a_t_at : Nat) (a_t_in : Nat) (a_t_back : Nat) (a_t_register : Nat) (a_t_output : Nat) (a_t_calls : Nat) (a_t_latest : Nat) (a_t_differ : Nat) (N : Nat) (t_code : Int32) (t_own : Int32) (t_count : Int32) (t_tableSize : Int32) (t_given : Int32) (t_known : Int32) (t_news : Int32) (t_depth : Int32) (t_steps : Int32) (t_taken : Int32) (t_shown : Int32) (t_outcome : Int32) (t_parameters : Nat → Int32) (t_length : Nat → Int32) (t_now : Nat → Int32) (t_table : Nat → Int32) (t_met : Nat → Int32) (t_any : Nat → Int32) (t_number : Nat → Int32) (t_outAny : Nat → Int32) (t_out : Nat → Int32) (out : Int32 × (Nat → Int32) × (Nat → Int32) × (Nat → Int32) × (Nat → Int32) × (Nat → Int32)) (hf : f_X8_learn N t_count t_tableSize t_news t_parameters t_length t_now t_table t_met t_any t_number t_outAny t_out = some out) : g_Mv l yX8_learn cX8_learn 4 (none : Option Jvm.ClassFile.FieldType) r_X8_learn tA dC dI cI cZ cJ [.ref a_t] (w_X8_learn cI cZ cJ a_t a_t_parameters a_t_length a_t_now a_t_table a_t_met a_t_any a_t_number a_t_outAny a_t_out a_t_newLength a_t_first a_t_anew a_t_inputs a_t_at a_t_in a_t_back a_t_register a_t_output a_t_calls a_t_latest a_t_differ t_code t_own t_count t_tableSize t_given t_known t_news t_depth t_steps t_taken t_shown t_outcome t_parameters t_length t_now t_table t_met t_any t_number t_outAny t_out) (w_X8_learn cI cZ cJ a_t a_t_parameters a_t_length a_t_now a_t_table a_t_met a_t_any a_t_number a_t_outAny a_t_out a_t_newLength a_t_first a_t_anew a_t_inputs a_t_at a_t_in a_t_back a_t_register a_t_output a_t_calls a_t_latest a_t_differ t_code t_own t_count t_tableSize t_given t_known out.1 t_depth t_steps t_taken t_shown t_outcome t_parameters t_length t_now t_table out.2.1 out.2.2.1 out.2.2.2.1 out.2.2.2.2.1 out.2.2.2.2.2) := by
  unfold f_X8_learn at hf
  refine ge_v (by decide) (Nat.le_of_ble_eq_true rfl) (fun p e s m below meth c A H locs ls hC hW hl => ?_)
  have hC : g_C p s m meth c _ cX8_learn 4 (none : Option Jvm.ClassFile.FieldType) RX8 := hC
  have hx := hC.1
  have hb := hC.2.1
  have hown := hC.2.2.2.2.1
  have hts := hC.2.2.2.2.2.1
  have hl : lv_has ls 4 [(0, .ref a_t)] := hl
  refine lv_iconst (v := 0) hx hb dX8_learn_0 (by decide) ?_
  refine lv_istore_n (lv' := [(1, .int 0), (0, .ref a_t)]) hx hb dX8_learn_1 rfl hl (by decide) rfl (fun ls hl => ?_)
  exact b_X8_learn_2 hC N _ _ _ _ _ _ _ _ hf _ _ _ hW (lv_sub hl [1, 0] rfl)

abbrev w_X8_isCall (cI cZ cJ : ClassId) (a_t : Nat) (a_t_length : Nat) (a_t_now : Nat) (a_t_met : Nat) (a_t_parameters : Nat) (a_t_newLength : Nat) (a_t_first : Nat) (a_t_anew : Nat) (a_t_table : Nat) (a_t_inputs : Nat) (a_t_any : Nat) (a_t_number : Nat) (a_t_outAny : Nat) (a_t_out : Nat) (a_t_at : Nat) (a_t_in : Nat) (a_t_back : Nat) (a_t_register : Nat) (a_t_output : Nat) (a_t_calls : Nat) (a_t_latest : Nat) (a_t_differ : Nat) (t_code : Int32) (t_own : Int32) (t_count : Int32) (t_tableSize : Int32) (t_given : Int32) (t_known : Int32) (t_news : Int32) (t_depth : Int32) (t_steps : Int32) (t_taken : Int32) (t_shown : Int32) (t_outcome : Int32) (t_length : Nat → Int32) (t_now : Nat → Int32) (t_met : Nat → Int32) : va_W := [(a_t, .inr (8, [.int t_code, .int t_own, .int t_count, .ref a_t_parameters, .ref a_t_length, .ref a_t_newLength, .ref a_t_first, .ref a_t_now, .ref a_t_anew, .int t_tableSize, .ref a_t_table, .int t_given, .ref a_t_inputs, .int t_known, .ref a_t_met, .ref a_t_any, .ref a_t_number, .int t_news, .ref a_t_outAny, .ref a_t_out, .int t_depth, .int t_steps, .int t_taken, .int t_shown, .ref a_t_at, .ref a_t_in, .ref a_t_back, .ref a_t_register, .ref a_t_output, .ref a_t_calls, .ref a_t_latest, .ref a_t_differ, .int t_outcome])), (a_t_length, .inl (cI, 12, .inl t_length)), (a_t_now, .inl (cI, 1152, .inl t_now)), (a_t_met, .inl (cZ, 204, .inl t_met))]
abbrev r_X8_isCall : Room := { frames := 0, cells := 0, slots := 0, locals := 0 }
def f_X8_isCall (x1 : Int32) (t_length : Nat → Int32) (t_now : Nat → Int32) (t_met : Nat → Int32) : Option (Int32) := (g_dv x1 16).bind (fun v1 => (g_rm x1 16).bind (fun v2 => (g_rd 12 t_length v1).bind (fun v3 => if v3 ≤ v2 then some 0 else (g_rd 204 t_met ((17 * v1) + v2)).bind (fun v5 => if v5 = 0 then some 0 else (g_rd 1152 t_now (6 * x1)).bind (fun v7 => if v7 = 10 then (g_rd 1152 t_now ((6 * x1) + 2)).bind (fun v9 => if v9 ≤ 0 then some 0 else some 1) else some 0)))))
set_option maxHeartbeats 4000000 in
set_option maxRecDepth 100000 in
theorem k_X8_isCall (l : Launch) (tA : Nat) (dC : Nat → ClassId) (dI : Nat → Nat → Nat) (cI cZ cJ : ClassId) (a_t : Nat) (a_t_length : Nat) (a_t_now : Nat) (a_t_met : Nat) (a_t_parameters : Nat) (a_t_newLength : Nat) (a_t_first : Nat) (a_t_anew : Nat) (a_t_table : Nat) (a_t_inputs : Nat) (a_t_any : Nat) (a_t_number : Nat) (a_t_outAny : Nat) (a_t_out : Nat) (a_t_at : Nat) (a_t_in : Nat) (a_t_back : Nat) (a_t_register : Nat) (a_t_output : Nat) (a_t_calls : Nat) (a_t_latest : Nat) (a_t_differ : Nat) (x1 : Int32) (t_code : Int32) (t_own : Int32) (t_count : Int32) (t_tableSize : Int32) (t_given : Int32) (t_known : Int32) (t_news : Int32) (t_depth : Int32) (t_steps : Int32) (t_taken : Int32) (t_shown : Int32) (t_outcome : Int32) (t_length : Nat → Int32) (t_now : Nat → Int32) (t_met : Nat → Int32) (out : Int32) (hf : f_X8_isCall x1 t_length t_now t_met = some out) : g_Mi l yX8_isCall cX8_isCall 4 (some .boolean) r_X8_isCall tA dC dI cI cZ cJ [.ref a_t, .int x1] (w_X8_isCall cI cZ cJ a_t a_t_length a_t_now a_t_met a_t_parameters a_t_newLength a_t_first a_t_anew a_t_table a_t_inputs a_t_any a_t_number a_t_outAny a_t_out a_t_at a_t_in a_t_back a_t_register a_t_output a_t_calls a_t_latest a_t_differ t_code t_own t_count t_tableSize t_given t_known t_news t_depth t_steps t_taken t_shown t_outcome t_length t_now t_met) (w_X8_isCall cI cZ cJ a_t a_t_length a_t_now a_t_met a_t_parameters a_t_newLength a_t_first a_t_anew a_t_table a_t_inputs a_t_any a_t_number a_t_outAny a_t_out a_t_at a_t_in a_t_back a_t_register a_t_output a_t_calls a_t_latest a_t_differ t_code t_own t_count t_tableSize t_given t_known t_news t_depth t_steps t_taken t_shown t_outcome t_length t_now t_met) out := by
  unfold f_X8_isCall at hf
  refine ge_i (by decide) (Nat.le_of_ble_eq_true rfl) (fun p e s m below meth c A H locs ls hC hW hl => ?_)
  have hC : g_C p s m meth c _ cX8_isCall 4 (some .boolean) RX8 := hC
  have hx := hC.1
  have hb := hC.2.1
  have hown := hC.2.2.2.2.1
  have hts := hC.2.2.2.2.2.1
  have hl : lv_has ls 4 [(0, .ref a_t), (1, .int x1)] := hl
  refine lv_iload_n hx hb dX8_isCall_0 rfl (lv_at hl 1 rfl) ?_
  refine lv_bipush (v := 16) hx hb dX8_isCall_1 (by decide) ?_
  obtain ⟨v1, h1, hf⟩ := g_bnd hf
  refine gs_idiv hC h1 dX8_isCall_3 ?_
  refine lv_istore_n (lv' := [(2, .int v1), (0, .ref a_t), (1, .int x1)]) hx hb dX8_isCall_4 rfl hl (by decide) rfl (fun ls hl => ?_)
  refine lv_iload_n hx hb dX8_isCall_5 rfl (lv_at hl 2 rfl) ?_
  refine lv_bipush (v := 16) hx hb dX8_isCall_6 (by decide) ?_
  obtain ⟨v2, h2, hf⟩ := g_bnd hf
  refine gs_irem hC h2 dX8_isCall_8 ?_
  refine lv_istore_n (lv' := [(3, .int v2), (2, .int v1), (0, .ref a_t), (1, .int x1)]) hx hb dX8_isCall_9 rfl hl (by decide) rfl (fun ls hl => ?_)
  refine lv_iload_n hx hb dX8_isCall_10 rfl (lv_at hl 0 rfl) ?_
  refine lv_aload_n hx hb dX8_isCall_11 rfl (lv_at hl 2 rfl) ?_
  refine gs_get hC hW in_X8 0 4 rfl rfl (by decide) fl_X8_13 rfl dX8_isCall_12 ?_
  refine lv_iload_n hx hb dX8_isCall_15 rfl (lv_at hl 1 rfl) ?_
  obtain ⟨v3, h3, hf⟩ := g_bnd hf
  refine gs_iald hC hW 1 h3 rfl dX8_isCall_16 ?_
  refine lv_icmp_ge (tgt := 66) hx hb dX8_isCall_17 (by decide) (fun c4 => ?_) (fun c4 => ?_)
  · replace hf := (if_pos c4).symm.trans hf
    refine lv_iconst (v := 0) hx hb dX8_isCall_66 (by decide) ?_
    obtain rfl := Option.some.inj hf
    exact gs_rz hC hW rfl g_n0 dX8_isCall_67
  · replace hf := (if_neg c4).symm.trans hf
    refine lv_aload_n hx hb dX8_isCall_20 rfl (lv_at hl 2 rfl) ?_
    refine gs_get hC hW in_X8 0 14 rfl rfl (by decide) fl_X8_34 rfl dX8_isCall_21 ?_
    refine lv_bipush (v := 17) hx hb dX8_isCall_24 (by decide) ?_
    refine lv_iload_n hx hb dX8_isCall_26 rfl (lv_at hl 1 rfl) ?_
    refine lv_imul hx hb dX8_isCall_27 ?_
    refine lv_iload_n hx hb dX8_isCall_28 rfl (lv_at hl 0 rfl) ?_
    refine lv_iadd hx hb dX8_isCall_29 ?_
    obtain ⟨v5, h5, hf⟩ := g_bnd hf
    refine gs_zald hC hW 3 h5 rfl dX8_isCall_30 ?_
    refine lv_if_eq (tgt := 66) hx hb dX8_isCall_31 (by decide) (fun c6 => ?_) (fun c6 => ?_)
    · replace hf := (if_pos c6).symm.trans hf
      refine lv_iconst (v := 0) hx hb dX8_isCall_66 (by decide) ?_
      obtain rfl := Option.some.inj hf
      exact gs_rz hC hW rfl g_n0 dX8_isCall_67
    · replace hf := (if_neg c6).symm.trans hf
      refine lv_aload_n hx hb dX8_isCall_34 rfl (lv_at hl 2 rfl) ?_
      refine gs_get hC hW in_X8 0 7 rfl rfl (by decide) fl_X8_22 rfl dX8_isCall_35 ?_
      refine lv_bipush (v := 6) hx hb dX8_isCall_38 (by decide) ?_
      refine lv_iload_n hx hb dX8_isCall_40 rfl (lv_at hl 3 rfl) ?_
      refine lv_imul hx hb dX8_isCall_41 ?_
      obtain ⟨v7, h7, hf⟩ := g_bnd hf
      refine gs_iald hC hW 2 h7 rfl dX8_isCall_42 ?_
      refine lv_bipush (v := 10) hx hb dX8_isCall_43 (by decide) ?_
      refine lv_icmp_ne (tgt := 66) hx hb dX8_isCall_45 (by decide) (fun c8 => ?_) (fun c8 => ?_)
      · replace hf := (if_neg c8).symm.trans hf
        refine lv_iconst (v := 0) hx hb dX8_isCall_66 (by decide) ?_
        obtain rfl := Option.some.inj hf
        exact gs_rz hC hW rfl g_n0 dX8_isCall_67
      · replace hf := (if_pos c8).symm.trans hf
        refine lv_aload_n hx hb dX8_isCall_48 rfl (lv_at hl 2 rfl) ?_
        refine gs_get hC hW in_X8 0 7 rfl rfl (by decide) fl_X8_22 rfl dX8_isCall_49 ?_
        refine lv_bipush (v := 6) hx hb dX8_isCall_52 (by decide) ?_
        refine lv_iload_n hx hb dX8_isCall_54 rfl (lv_at hl 3 rfl) ?_
        refine lv_imul hx hb dX8_isCall_55 ?_
        refine lv_iconst (v := 2) hx hb dX8_isCall_56 (by decide) ?_
        refine lv_iadd hx hb dX8_isCall_57 ?_
        obtain ⟨v9, h9, hf⟩ := g_bnd hf
        refine gs_iald hC hW 2 h9 rfl dX8_isCall_58 ?_
        refine lv_if_le (tgt := 66) hx hb dX8_isCall_59 (by decide) (fun c10 => ?_) (fun c10 => ?_)
        · replace hf := (if_pos c10).symm.trans hf
          refine lv_iconst (v := 0) hx hb dX8_isCall_66 (by decide) ?_
          obtain rfl := Option.some.inj hf
          exact gs_rz hC hW rfl g_n0 dX8_isCall_67
        · replace hf := (if_neg c10).symm.trans hf
          refine lv_iconst (v := 1) hx hb dX8_isCall_62 (by decide) ?_
          refine lv_goto (tgt := 67) hx hb dX8_isCall_63 (by decide) ?_
          obtain rfl := Option.some.inj hf
          exact gs_rz hC hW rfl g_n1 dX8_isCall_67

abbrev w_X8_placeOf (cI cZ cJ : ClassId) : va_W := []
abbrev r_X8_placeOf : Room := { frames := 0, cells := 0, slots := 0, locals := 0 }
def f_X8_placeOf (x0 : Int32) : Option (Int32) := (g_dv x0 16).bind (fun v1 => (g_rm x0 16).bind (fun v2 => some ((17 * v1) + v2)))
set_option maxHeartbeats 4000000 in
set_option maxRecDepth 100000 in
theorem k_X8_placeOf (l : Launch) (tA : Nat) (dC : Nat → ClassId) (dI : Nat → Nat → Nat) (cI cZ cJ : ClassId) (x0 : Int32) (out : Int32) (hf : f_X8_placeOf x0 = some out) : g_Mi l yX8_placeOf cX8_placeOf 1 (some .int) r_X8_placeOf tA dC dI cI cZ cJ [.int x0] (w_X8_placeOf cI cZ cJ ) (w_X8_placeOf cI cZ cJ ) out := by
  unfold f_X8_placeOf at hf
  refine ge_i (by decide) (Nat.le_of_ble_eq_true rfl) (fun p e s m below meth c A H locs ls hC hW hl => ?_)
  have hC : g_C p s m meth c _ cX8_placeOf 1 (some .int) RX8 := hC
  have hx := hC.1
  have hb := hC.2.1
  have hown := hC.2.2.2.2.1
  have hts := hC.2.2.2.2.2.1
  have hl : lv_has ls 1 [(0, .int x0)] := hl
  refine lv_bipush (v := 17) hx hb dX8_placeOf_0 (by decide) ?_
  refine lv_iload_n hx hb dX8_placeOf_2 rfl (lv_at hl 0 rfl) ?_
  refine lv_bipush (v := 16) hx hb dX8_placeOf_3 (by decide) ?_
  obtain ⟨v1, h1, hf⟩ := g_bnd hf
  refine gs_idiv hC h1 dX8_placeOf_5 ?_
  refine lv_imul hx hb dX8_placeOf_6 ?_
  refine lv_iload_n hx hb dX8_placeOf_7 rfl (lv_at hl 0 rfl) ?_
  refine lv_bipush (v := 16) hx hb dX8_placeOf_8 (by decide) ?_
  obtain ⟨v2, h2, hf⟩ := g_bnd hf
  refine gs_irem hC h2 dX8_placeOf_10 ?_
  refine lv_iadd hx hb dX8_placeOf_11 ?_
  obtain rfl := Option.some.inj hf
  exact gs_ri hC hW rfl dX8_placeOf_12

abbrev w_X8_isSpecial (cI cZ cJ : ClassId) (a_t : Nat) (a_t_parameters : Nat) (a_t_length : Nat) (a_t_now : Nat) (a_t_met : Nat) (a_t_any : Nat) (a_t_newLength : Nat) (a_t_first : Nat) (a_t_anew : Nat) (a_t_table : Nat) (a_t_inputs : Nat) (a_t_number : Nat) (a_t_outAny : Nat) (a_t_out : Nat) (a_t_at : Nat) (a_t_in : Nat) (a_t_back : Nat) (a_t_register : Nat) (a_t_output : Nat) (a_t_calls : Nat) (a_t_latest : Nat) (a_t_differ : Nat) (t_code : Int32) (t_own : Int32) (t_count : Int32) (t_tableSize : Int32) (t_given : Int32) (t_known : Int32) (t_news : Int32) (t_depth : Int32) (t_steps : Int32) (t_taken : Int32) (t_shown : Int32) (t_outcome : Int32) (t_parameters : Nat → Int32) (t_length : Nat → Int32) (t_now : Nat → Int32) (t_met : Nat → Int32) (t_any : Nat → Int32) : va_W := [(a_t, .inr (8, [.int t_code, .int t_own, .int t_count, .ref a_t_parameters, .ref a_t_length, .ref a_t_newLength, .ref a_t_first, .ref a_t_now, .ref a_t_anew, .int t_tableSize, .ref a_t_table, .int t_given, .ref a_t_inputs, .int t_known, .ref a_t_met, .ref a_t_any, .ref a_t_number, .int t_news, .ref a_t_outAny, .ref a_t_out, .int t_depth, .int t_steps, .int t_taken, .int t_shown, .ref a_t_at, .ref a_t_in, .ref a_t_back, .ref a_t_register, .ref a_t_output, .ref a_t_calls, .ref a_t_latest, .ref a_t_differ, .int t_outcome])), (a_t_parameters, .inl (cI, 12, .inl t_parameters)), (a_t_length, .inl (cI, 12, .inl t_length)), (a_t_now, .inl (cI, 1152, .inl t_now)), (a_t_met, .inl (cZ, 204, .inl t_met)), (a_t_any, .inl (cZ, 1224, .inl t_any))]
abbrev r_X8_isSpecial : Room := { frames := 2, cells := 0, slots := 0, locals := 42 }
def f_X8_isSpecial_27 (N : Nat) (x1 : Int32) (t_parameters : Nat → Int32) (t_length : Nat → Int32) (t_now : Nat → Int32) (t_met : Nat → Int32) (t_any : Nat → Int32) : Nat → Int32 → Int32 → Int32 → Option (Int32)
  | 0, _, _, _ => none
  | n + 1, x2, x3, x4 => (g_rd 12 t_parameters x2).bind (fun v1 => if v1 ≤ x4 then (g_zr x3).bind (fun v3 => some v3) else if x3 = 0 then (g_rd 1224 t_any ((102 * x2) + x4)).bind (fun v5 => if v5 = 0 then f_X8_isSpecial_27 N x1 t_parameters t_length t_now t_met t_any n x2 0 (x4 + 1) else (f_X8_placeOf x1).bind (fun o7 => (g_rd 1152 t_now (((6 * x1) + 3) + x4)).bind (fun v8 => (f_X8_has o7 v8 t_any).bind (fun o9 => if o9 = 0 then f_X8_isSpecial_27 N x1 t_parameters t_length t_now t_met t_any n x2 0 (x4 + 1) else f_X8_isSpecial_27 N x1 t_parameters t_length t_now t_met t_any n x2 1 (x4 + 1))))) else f_X8_isSpecial_27 N x1 t_parameters t_length t_now t_met t_any n x2 1 (x4 + 1))
set_option maxHeartbeats 4000000 in
set_option maxRecDepth 100000 in
theorem b_X8_isSpecial_27 {p : Program} {l : Launch} {e : Env} {s : State} {m : MethodId} {args : Array Value} {below : List Frame} {meth : Method} {c : Code} {tA : Nat} {dC : Nat → ClassId} {dI : Nat → Nat → Nat} {cI cZ cJ : ClassId} {A : Nat → Prop} {a_t : Nat} {a_t_parameters : Nat} {a_t_length : Nat} {a_t_now : Nat} {a_t_met : Nat} {a_t_any : Nat} {a_t_newLength : Nat} {a_t_first : Nat} {a_t_anew : Nat} {a_t_table : Nat} {a_t_inputs : Nat} {a_t_number : Nat} {a_t_outAny : Nat} {a_t_out : Nat} {a_t_at : Nat} {a_t_in : Nat} {a_t_back : Nat} {a_t_register : Nat} {a_t_output : Nat} {a_t_calls : Nat} {a_t_latest : Nat} {a_t_differ : Nat} {x1 : Int32} {t_parameters : Nat → Int32} {t_length : Nat → Int32} {t_now : Nat → Int32} {t_met : Nat → Int32} {t_any : Nat → Int32} {t_code : Int32} {t_own : Int32} {t_count : Int32} {t_tableSize : Int32} {t_given : Int32} {t_known : Int32} {t_news : Int32} {t_depth : Int32} {t_steps : Int32} {t_taken : Int32} {t_shown : Int32} {t_outcome : Int32} {N : Nat} (hC : g_C p s m meth c args cX8_isSpecial 5 (some .boolean) RX8) :
    ∀ (n : Nat) (x2 : Int32) (x3 : Int32) (x4 : Int32) (out : Int32), f_X8_isSpecial_27 N x1 t_parameters t_length t_now t_met t_any n x2 x3 x4 = some out → ∀ (H : Heap) (locs : List Loc) (ls : Array Slot), g_W tA dC dI cI cZ cJ A s H locs (w_X8_isSpecial cI cZ cJ a_t a_t_parameters a_t_length a_t_now a_t_met a_t_any a_t_newLength a_t_first a_t_anew a_t_table a_t_inputs a_t_number a_t_outAny a_t_out a_t_at a_t_in a_t_back a_t_register a_t_output a_t_calls a_t_latest a_t_differ t_code t_own t_count t_tableSize t_given t_known t_news t_depth t_steps t_taken t_shown t_outcome t_parameters t_length t_now t_met t_any) → lv_has ls 5 [(0, .ref a_t), (1, .int x1), (2, .int x2), (3, .int x3), (4, .int x4)] → W p l e r_X8_isSpecial s m args below meth c H locs 0 0 (MQ below (g_Qi dC dI cI cZ cJ A (w_X8_isSpecial cI cZ cJ a_t a_t_parameters a_t_length a_t_now a_t_met a_t_any a_t_newLength a_t_first a_t_anew a_t_table a_t_inputs a_t_number a_t_outAny a_t_out a_t_at a_t_in a_t_back a_t_register a_t_output a_t_calls a_t_latest a_t_differ t_code t_own t_count t_tableSize t_given t_known t_news t_depth t_steps t_taken t_shown t_outcome t_parameters t_length t_now t_met t_any) out) args s 0 0 A) (F0 m 27 ls []) := by
  have hx := hC.1
  have hb := hC.2.1
  have hown := hC.2.2.2.2.1
  have hts := hC.2.2.2.2.2.1
  intro n
  induction n with
  | zero =>
    intro x2 x3 x4 out hf
    exact g_no hf
  | succ n ih =>
    intro x2 x3 x4 out hf H locs ls hW hl
    refine lv_iload hx hb dX8_isSpecial_27 (lv_at hl 4 rfl) ?_
    refine lv_aload_n hx hb dX8_isSpecial_29 rfl (lv_at hl 0 rfl) ?_
    refine gs_get hC hW in_X8 0 3 rfl rfl (by decide) fl_X8_7 rfl dX8_isSpecial_30 ?_
    refine lv_iload_n hx hb dX8_isSpecial_33 rfl (lv_at hl 2 rfl) ?_
    obtain ⟨v1, h1, hf⟩ := g_bnd hf
    refine gs_iald hC hW 1 h1 rfl dX8_isSpecial_34 ?_
    refine lv_icmp_ge (tgt := 94) hx hb dX8_isSpecial_35 (by decide) (fun c2 => ?_) (fun c2 => ?_)
    · replace hf := (if_pos c2).symm.trans hf
      refine lv_iload_n hx hb dX8_isSpecial_94 rfl (lv_at hl 3 rfl) ?_
      obtain ⟨v3, h3, hf⟩ := g_bnd hf
      obtain ⟨rfl, hn, -⟩ := g_zr_ok h3
      obtain rfl := Option.some.inj hf
      exact gs_rz hC hW rfl hn dX8_isSpecial_95
    · replace hf := (if_neg c2).symm.trans hf
      refine lv_iload_n hx hb dX8_isSpecial_38 rfl (lv_at hl 3 rfl) ?_
      refine lv_if_ne (tgt := 82) hx hb dX8_isSpecial_39 (by decide) (fun c4 => ?_) (fun c4 => ?_)
      · replace hf := (if_neg c4).symm.trans hf
        refine lv_iconst (v := 1) hx hb dX8_isSpecial_82 (by decide) ?_
        refine lv_goto (tgt := 87) hx hb dX8_isSpecial_83 (by decide) ?_
        refine lv_istore_n (lv' := [(3, .int 1), (0, .ref a_t), (1, .int x1), (2, .int x2), (4, .int x4)]) hx hb dX8_isSpecial_87 rfl hl (by decide) rfl (fun ls hl => ?_)
        refine lv_iinc (v := x4 + 1) (lv' := [(4, .int (x4 + 1)), (3, .int 1), (0, .ref a_t), (1, .int x1), (2, .int x2)]) hx hb dX8_isSpecial_88 hl (k := 4) rfl rfl (by decide) rfl (fun ls hl => ?_)
        refine lv_goto (tgt := 27) hx hb dX8_isSpecial_91 (by decide) ?_
        exact ih _ _ _ _ hf _ _ _ hW (lv_sub hl [2, 3, 4, 1, 0] rfl)
      · replace hf := (if_pos c4).symm.trans hf
        refine lv_aload_n hx hb dX8_isSpecial_42 rfl (lv_at hl 0 rfl) ?_
        refine gs_get hC hW in_X8 0 15 rfl rfl (by decide) fl_X8_38 rfl dX8_isSpecial_43 ?_
        refine lv_bipush (v := 102) hx hb dX8_isSpecial_46 (by decide) ?_
        refine lv_iload_n hx hb dX8_isSpecial_48 rfl (lv_at hl 2 rfl) ?_
        refine lv_imul hx hb dX8_isSpecial_49 ?_
        refine lv_iload hx hb dX8_isSpecial_50 (lv_at hl 4 rfl) ?_
        refine lv_iadd hx hb dX8_isSpecial_52 ?_
        obtain ⟨v5, h5, hf⟩ := g_bnd hf
        refine gs_zald hC hW 5 h5 rfl dX8_isSpecial_53 ?_
        refine lv_if_eq (tgt := 86) hx hb dX8_isSpecial_54 (by decide) (fun c6 => ?_) (fun c6 => ?_)
        · replace hf := (if_pos c6).symm.trans hf
          refine lv_iconst (v := 0) hx hb dX8_isSpecial_86 (by decide) ?_
          refine lv_istore_n (lv' := [(3, .int 0), (0, .ref a_t), (1, .int x1), (2, .int x2), (4, .int x4)]) hx hb dX8_isSpecial_87 rfl hl (by decide) rfl (fun ls hl => ?_)
          refine lv_iinc (v := x4 + 1) (lv' := [(4, .int (x4 + 1)), (3, .int 0), (0, .ref a_t), (1, .int x1), (2, .int x2)]) hx hb dX8_isSpecial_88 hl (k := 4) rfl rfl (by decide) rfl (fun ls hl => ?_)
          refine lv_goto (tgt := 27) hx hb dX8_isSpecial_91 (by decide) ?_
          exact ih _ _ _ _ hf _ _ _ hW (lv_sub hl [2, 3, 4, 1, 0] rfl)
        · replace hf := (if_neg c6).symm.trans hf
          refine lv_aload_n hx hb dX8_isSpecial_57 rfl (lv_at hl 0 rfl) ?_
          refine lv_iload_n hx hb dX8_isSpecial_58 rfl (lv_at hl 1 rfl) ?_
          obtain ⟨o7, h7, hf⟩ := g_bnd hf
          refine gs_callSi (ws' := w_X8_isSpecial cI cZ cJ a_t a_t_parameters a_t_length a_t_now a_t_met a_t_any a_t_newLength a_t_first a_t_anew a_t_table a_t_inputs a_t_number a_t_outAny a_t_out a_t_at a_t_in a_t_back a_t_register a_t_output a_t_calls a_t_latest a_t_differ t_code t_own t_count t_tableSize t_given t_known t_news t_depth t_steps t_taken t_shown t_outcome t_parameters t_length t_now t_met t_any) hC hW (k_X8_placeOf l tA dC dI cI cZ cJ x1 _ h7) yk_X8_placeOf lk_X8_155 is_X8_placeOf ⟨rfl, rfl⟩ ⟨Nat.le_of_ble_eq_true rfl, Nat.le_of_ble_eq_true rfl⟩ hl.1 [] [0, 1, 2, 3, 4, 5] [0, 1, 2, 3, 4, 5] rfl rfl rfl rfl (by decide) rfl rfl rfl rfl (Nat.le_of_ble_eq_true rfl) dX8_isSpecial_59 ⟨Nat.zero_le _, Nat.zero_le _⟩ (fun H locs hW => ?_)
          refine lv_aload_n hx hb dX8_isSpecial_62 rfl (lv_at hl 0 rfl) ?_
          refine gs_get hC hW in_X8 0 7 rfl rfl (by decide) fl_X8_22 rfl dX8_isSpecial_63 ?_
          refine lv_bipush (v := 6) hx hb dX8_isSpecial_66 (by decide) ?_
          refine lv_iload_n hx hb dX8_isSpecial_68 rfl (lv_at hl 1 rfl) ?_
          refine lv_imul hx hb dX8_isSpecial_69 ?_
          refine lv_iconst (v := 3) hx hb dX8_isSpecial_70 (by decide) ?_
          refine lv_iadd hx hb dX8_isSpecial_71 ?_
          refine lv_iload hx hb dX8_isSpecial_72 (lv_at hl 4 rfl) ?_
          refine lv_iadd hx hb dX8_isSpecial_74 ?_
          obtain ⟨v8, h8, hf⟩ := g_bnd hf
          refine gs_iald hC hW 3 h8 rfl dX8_isSpecial_75 ?_
          obtain ⟨o9, h9, hf⟩ := g_bnd hf
          refine gs_callVi (ws' := w_X8_isSpecial cI cZ cJ a_t a_t_parameters a_t_length a_t_now a_t_met a_t_any a_t_newLength a_t_first a_t_anew a_t_table a_t_inputs a_t_number a_t_outAny a_t_out a_t_at a_t_in a_t_back a_t_register a_t_output a_t_calls a_t_latest a_t_differ t_code t_own t_count t_tableSize t_given t_known t_news t_depth t_steps t_taken t_shown t_outcome t_parameters t_length t_now t_met t_any) hC hW (k_X8_has l tA dC dI cI cZ cJ a_t a_t_any a_t_parameters a_t_length a_t_newLength a_t_first a_t_now a_t_anew a_t_table a_t_inputs a_t_met a_t_number a_t_outAny a_t_out a_t_at a_t_in a_t_back a_t_register a_t_output a_t_calls a_t_latest a_t_differ o7 v8 t_code t_own t_count t_tableSize t_given t_known t_news t_depth t_steps t_taken t_shown t_outcome t_any _ h9) yk_X8_has lk_X8_118 iv_X8_has ⟨rfl, rfl⟩ ⟨Nat.le_of_ble_eq_true rfl, Nat.le_of_ble_eq_true rfl⟩ hl.1 0 rfl rfl [0, 5] [1, 2, 3, 4] [4, 0, 1, 2, 3, 5] rfl rfl rfl rfl (by decide) rfl rfl rfl rfl (Nat.le_of_ble_eq_true rfl) dX8_isSpecial_76 ⟨Nat.zero_le _, Nat.zero_le _⟩ (fun H locs hW => ?_)
          refine lv_if_eq (tgt := 86) hx hb dX8_isSpecial_79 (by decide) (fun c10 => ?_) (fun c10 => ?_)
          · replace hf := (if_pos c10).symm.trans hf
            refine lv_iconst (v := 0) hx hb dX8_isSpecial_86 (by decide) ?_
            refine lv_istore_n (lv' := [(3, .int 0), (0, .ref a_t), (1, .int x1), (2, .int x2), (4, .int x4)]) hx hb dX8_isSpecial_87 rfl hl (by decide) rfl (fun ls hl => ?_)
            refine lv_iinc (v := x4 + 1) (lv' := [(4, .int (x4 + 1)), (3, .int 0), (0, .ref a_t), (1, .int x1), (2, .int x2)]) hx hb dX8_isSpecial_88 hl (k := 4) rfl rfl (by decide) rfl (fun ls hl => ?_)
            refine lv_goto (tgt := 27) hx hb dX8_isSpecial_91 (by decide) ?_
            exact ih _ _ _ _ hf _ _ _ hW (lv_sub hl [2, 3, 4, 1, 0] rfl)
          · replace hf := (if_neg c10).symm.trans hf
            refine lv_iconst (v := 1) hx hb dX8_isSpecial_82 (by decide) ?_
            refine lv_goto (tgt := 87) hx hb dX8_isSpecial_83 (by decide) ?_
            refine lv_istore_n (lv' := [(3, .int 1), (0, .ref a_t), (1, .int x1), (2, .int x2), (4, .int x4)]) hx hb dX8_isSpecial_87 rfl hl (by decide) rfl (fun ls hl => ?_)
            refine lv_iinc (v := x4 + 1) (lv' := [(4, .int (x4 + 1)), (3, .int 1), (0, .ref a_t), (1, .int x1), (2, .int x2)]) hx hb dX8_isSpecial_88 hl (k := 4) rfl rfl (by decide) rfl (fun ls hl => ?_)
            refine lv_goto (tgt := 27) hx hb dX8_isSpecial_91 (by decide) ?_
            exact ih _ _ _ _ hf _ _ _ hW (lv_sub hl [2, 3, 4, 1, 0] rfl)
def f_X8_isSpecial (N : Nat) (x1 : Int32) (t_parameters : Nat → Int32) (t_length : Nat → Int32) (t_now : Nat → Int32) (t_met : Nat → Int32) (t_any : Nat → Int32) : Option (Int32) := (f_X8_isCall x1 t_length t_now t_met).bind (fun o11 => if o11 = 0 then some 0 else (g_rd 1152 t_now ((6 * x1) + 2)).bind (fun v13 => f_X8_isSpecial_27 N x1 t_parameters t_length t_now t_met t_any N v13 0 0))
set_option maxHeartbeats 4000000 in
set_option maxRecDepth 100000 in
theorem k_X8_isSpecial (l : Launch) (tA : Nat) (dC : Nat → ClassId) (dI : Nat → Nat → Nat) (cI cZ cJ : ClassId) (a_t : Nat) (a_t_parameters : Nat) (a_t_length : Nat) (a_t_now : Nat) (a_t_met : Nat) (a_t_any : Nat) (a_t_newLength : Nat) (a_t_first : Nat) (a_t_anew : Nat) (a_t_table : Nat) (a_t_inputs : Nat) (a_t_number : Nat) (a_t_outAny : Nat) (a_t_out : Nat) (a_t_at : Nat) (a_t_in : Nat) (a_t_back : Nat) (a_t_register : Nat) (a_t_output : Nat) (a_t_calls : Nat) (a_t_latest : Nat) (a_t_differ : Nat) (N : Nat) (x1 : Int32) (t_code : Int32) (t_own : Int32) (t_count : Int32) (t_tableSize : Int32) (t_given : Int32) (t_known : Int32) (t_news : Int32) (t_depth : Int32) (t_steps : Int32) (t_taken : Int32) (t_shown : Int32) (t_outcome : Int32) (t_parameters : Nat → Int32) (t_length : Nat → Int32) (t_now : Nat → Int32) (t_met : Nat → Int32) (t_any : Nat → Int32) (out : Int32) (hf : f_X8_isSpecial N x1 t_parameters t_length t_now t_met t_any = some out) : g_Mi l yX8_isSpecial cX8_isSpecial 5 (some .boolean) r_X8_isSpecial tA dC dI cI cZ cJ [.ref a_t, .int x1] (w_X8_isSpecial cI cZ cJ a_t a_t_parameters a_t_length a_t_now a_t_met a_t_any a_t_newLength a_t_first a_t_anew a_t_table a_t_inputs a_t_number a_t_outAny a_t_out a_t_at a_t_in a_t_back a_t_register a_t_output a_t_calls a_t_latest a_t_differ t_code t_own t_count t_tableSize t_given t_known t_news t_depth t_steps t_taken t_shown t_outcome t_parameters t_length t_now t_met t_any) (w_X8_isSpecial cI cZ cJ a_t a_t_parameters a_t_length a_t_now a_t_met a_t_any a_t_newLength a_t_first a_t_anew a_t_table a_t_inputs a_t_number a_t_outAny a_t_out a_t_at a_t_in a_t_back a_t_register a_t_output a_t_calls a_t_latest a_t_differ t_code t_own t_count t_tableSize t_given t_known t_news t_depth t_steps t_taken t_shown t_outcome t_parameters t_length t_now t_met t_any) out := by
  unfold f_X8_isSpecial at hf
  refine ge_i (by decide) (Nat.le_of_ble_eq_true rfl) (fun p e s m below meth c A H locs ls hC hW hl => ?_)
  have hC : g_C p s m meth c _ cX8_isSpecial 5 (some .boolean) RX8 := hC
  have hx := hC.1
  have hb := hC.2.1
  have hown := hC.2.2.2.2.1
  have hts := hC.2.2.2.2.2.1
  have hl : lv_has ls 5 [(0, .ref a_t), (1, .int x1)] := hl
  refine lv_aload_n hx hb dX8_isSpecial_0 rfl (lv_at hl 0 rfl) ?_
  refine lv_iload_n hx hb dX8_isSpecial_1 rfl (lv_at hl 1 rfl) ?_
  obtain ⟨o11, h11, hf⟩ := g_bnd hf
  refine gs_callVi (ws' := w_X8_isSpecial cI cZ cJ a_t a_t_parameters a_t_length a_t_now a_t_met a_t_any a_t_newLength a_t_first a_t_anew a_t_table a_t_inputs a_t_number a_t_outAny a_t_out a_t_at a_t_in a_t_back a_t_register a_t_output a_t_calls a_t_latest a_t_differ t_code t_own t_count t_tableSize t_given t_known t_news t_depth t_steps t_taken t_shown t_outcome t_parameters t_length t_now t_met t_any) hC hW (k_X8_isCall l tA dC dI cI cZ cJ a_t a_t_length a_t_now a_t_met a_t_parameters a_t_newLength a_t_first a_t_anew a_t_table a_t_inputs a_t_any a_t_number a_t_outAny a_t_out a_t_at a_t_in a_t_back a_t_register a_t_output a_t_calls a_t_latest a_t_differ x1 t_code t_own t_count t_tableSize t_given t_known t_news t_depth t_steps t_taken t_shown t_outcome t_length t_now t_met _ h11) yk_X8_isCall lk_X8_152 iv_X8_isCall ⟨rfl, rfl⟩ ⟨Nat.le_of_ble_eq_true rfl, Nat.le_of_ble_eq_true rfl⟩ hl.1 0 rfl rfl [0, 2, 3, 4] [1, 5] [2, 0, 3, 4, 5, 1] rfl rfl rfl rfl (by decide) rfl rfl rfl rfl (Nat.le_of_ble_eq_true rfl) dX8_isSpecial_2 ⟨Nat.zero_le _, Nat.zero_le _⟩ (fun H locs hW => ?_)
  refine lv_if_ne (tgt := 10) hx hb dX8_isSpecial_5 (by decide) (fun c12 => ?_) (fun c12 => ?_)
  · replace hf := (if_neg c12).symm.trans hf
    refine lv_aload_n hx hb dX8_isSpecial_10 rfl (lv_at hl 0 rfl) ?_
    refine gs_get hC hW in_X8 0 7 rfl rfl (by decide) fl_X8_22 rfl dX8_isSpecial_11 ?_
    refine lv_bipush (v := 6) hx hb dX8_isSpecial_14 (by decide) ?_
    refine lv_iload_n hx hb dX8_isSpecial_16 rfl (lv_at hl 1 rfl) ?_
    refine lv_imul hx hb dX8_isSpecial_17 ?_
    refine lv_iconst (v := 2) hx hb dX8_isSpecial_18 (by decide) ?_
    refine lv_iadd hx hb dX8_isSpecial_19 ?_
    obtain ⟨v13, h13, hf⟩ := g_bnd hf
    refine gs_iald hC hW 3 h13 rfl dX8_isSpecial_20 ?_
    refine lv_istore_n (lv' := [(2, .int v13), (0, .ref a_t), (1, .int x1)]) hx hb dX8_isSpecial_21 rfl hl (by decide) rfl (fun ls hl => ?_)
    refine lv_iconst (v := 0) hx hb dX8_isSpecial_22 (by decide) ?_
    refine lv_istore_n (lv' := [(3, .int 0), (2, .int v13), (0, .ref a_t), (1, .int x1)]) hx hb dX8_isSpecial_23 rfl hl (by decide) rfl (fun ls hl => ?_)
    refine lv_iconst (v := 0) hx hb dX8_isSpecial_24 (by decide) ?_
    refine lv_istore (lv' := [(4, .int 0), (3, .int 0), (2, .int v13), (0, .ref a_t), (1, .int x1)]) hx hb dX8_isSpecial_25 hl (by decide) rfl (fun ls hl => ?_)
    exact b_X8_isSpecial_27 hC N _ _ _ _ hf _ _ _ hW (lv_sub hl [3, 4, 2, 1, 0] rfl)
  · replace hf := (if_pos c12).symm.trans hf
    refine lv_iconst (v := 0) hx hb dX8_isSpecial_8 (by decide) ?_
    obtain rfl := Option.some.inj hf
    exact gs_rz hC hW rfl g_n0 dX8_isSpecial_9

abbrev w_X8_agree (cI cZ cJ : ClassId) (a_t : Nat) (a_t_parameters : Nat) (a_t_length : Nat) (a_t_now : Nat) (a_t_met : Nat) (a_t_any : Nat) (a_t_number : Nat) (a_t_newLength : Nat) (a_t_first : Nat) (a_t_anew : Nat) (a_t_table : Nat) (a_t_inputs : Nat) (a_t_outAny : Nat) (a_t_out : Nat) (a_t_at : Nat) (a_t_in : Nat) (a_t_back : Nat) (a_t_register : Nat) (a_t_output : Nat) (a_t_calls : Nat) (a_t_latest : Nat) (a_t_differ : Nat) (t_code : Int32) (t_own : Int32) (t_count : Int32) (t_tableSize : Int32) (t_given : Int32) (t_known : Int32) (t_news : Int32) (t_depth : Int32) (t_steps : Int32) (t_taken : Int32) (t_shown : Int32) (t_outcome : Int32) (t_parameters : Nat → Int32) (t_length : Nat → Int32) (t_now : Nat → Int32) (t_met : Nat → Int32) (t_any : Nat → Int32) (t_number : Nat → Int32) : va_W := [(a_t, .inr (8, [.int t_code, .int t_own, .int t_count, .ref a_t_parameters, .ref a_t_length, .ref a_t_newLength, .ref a_t_first, .ref a_t_now, .ref a_t_anew, .int t_tableSize, .ref a_t_table, .int t_given, .ref a_t_inputs, .int t_known, .ref a_t_met, .ref a_t_any, .ref a_t_number, .int t_news, .ref a_t_outAny, .ref a_t_out, .int t_depth, .int t_steps, .int t_taken, .int t_shown, .ref a_t_at, .ref a_t_in, .ref a_t_back, .ref a_t_register, .ref a_t_output, .ref a_t_calls, .ref a_t_latest, .ref a_t_differ, .int t_outcome])), (a_t_parameters, .inl (cI, 12, .inl t_parameters)), (a_t_length, .inl (cI, 12, .inl t_length)), (a_t_now, .inl (cI, 1152, .inl t_now)), (a_t_met, .inl (cZ, 204, .inl t_met)), (a_t_any, .inl (cZ, 1224, .inl t_any)), (a_t_number, .inl (cI, 1224, .inl t_number))]
abbrev r_X8_agree : Room := { frames := 2, cells := 0, slots := 0, locals := 42 }
def f_X8_agree_40 (N : Nat) (x1 : Int32) (x2 : Int32) (t_parameters : Nat → Int32) (t_length : Nat → Int32) (t_now : Nat → Int32) (t_met : Nat → Int32) (t_any : Nat → Int32) (t_number : Nat → Int32) : Nat → Int32 → Int32 → Option (Int32)
  | 0, _, _ => none
  | n + 1, x3, x4 => (g_rd 1152 t_now ((6 * x1) + 2)).bind (fun v1 => (g_rd 12 t_parameters v1).bind (fun v2 => if v2 ≤ x4 then (g_zr x3).bind (fun v4 => some v4) else (g_rd 1152 t_now (((6 * x1) + 3) + x4)).bind (fun v5 => (g_rd 1152 t_now (((6 * x2) + 3) + x4)).bind (fun v6 => (f_X8_placeOf x1).bind (fun o7 => (f_X8_has o7 v5 t_any).bind (fun o8 => if x3 = 0 then f_X8_agree_40 N x1 x2 t_parameters t_length t_now t_met t_any t_number n 0 (x4 + 1) else (f_X8_placeOf x2).bind (fun o10 => (f_X8_has o10 v6 t_any).bind (fun o11 => if o8 = o11 then if o8 = 0 then f_X8_agree_40 N x1 x2 t_parameters t_length t_now t_met t_any t_number n 1 (x4 + 1) else (f_X8_placeOf x1).bind (fun o14 => (f_X8_valueAt o14 v5 t_number).bind (fun o15 => (f_X8_placeOf x2).bind (fun o16 => (f_X8_valueAt o16 v6 t_number).bind (fun o17 => if o15 = o17 then f_X8_agree_40 N x1 x2 t_parameters t_length t_now t_met t_any t_number n 1 (x4 + 1) else f_X8_agree_40 N x1 x2 t_parameters t_length t_now t_met t_any t_number n 0 (x4 + 1))))) else f_X8_agree_40 N x1 x2 t_parameters t_length t_now t_met t_any t_number n 0 (x4 + 1)))))))))
set_option maxHeartbeats 4000000 in
set_option maxRecDepth 100000 in
theorem b_X8_agree_40 {p : Program} {l : Launch} {e : Env} {s : State} {m : MethodId} {args : Array Value} {below : List Frame} {meth : Method} {c : Code} {tA : Nat} {dC : Nat → ClassId} {dI : Nat → Nat → Nat} {cI cZ cJ : ClassId} {A : Nat → Prop} {a_t : Nat} {a_t_parameters : Nat} {a_t_length : Nat} {a_t_now : Nat} {a_t_met : Nat} {a_t_any : Nat} {a_t_number : Nat} {a_t_newLength : Nat} {a_t_first : Nat} {a_t_anew : Nat} {a_t_table : Nat} {a_t_inputs : Nat} {a_t_outAny : Nat} {a_t_out : Nat} {a_t_at : Nat} {a_t_in : Nat} {a_t_back : Nat} {a_t_register : Nat} {a_t_output : Nat} {a_t_calls : Nat} {a_t_latest : Nat} {a_t_differ : Nat} {x1 : Int32} {x2 : Int32} {t_parameters : Nat → Int32} {t_length : Nat → Int32} {t_now : Nat → Int32} {t_met : Nat → Int32} {t_any : Nat → Int32} {t_number : Nat → Int32} {t_code : Int32} {t_own : Int32} {t_count : Int32} {t_tableSize : Int32} {t_given : Int32} {t_known : Int32} {t_news : Int32} {t_depth : Int32} {t_steps : Int32} {t_taken : Int32} {t_shown : Int32} {t_outcome : Int32} {N : Nat} (hC : g_C p s m meth c args cX8_agree 8 (some .boolean) RX8) :
    ∀ (n : Nat) (x3 : Int32) (x4 : Int32) (out : Int32), f_X8_agree_40 N x1 x2 t_parameters t_length t_now t_met t_any t_number n x3 x4 = some out → ∀ (H : Heap) (locs : List Loc) (ls : Array Slot), g_W tA dC dI cI cZ cJ A s H locs (w_X8_agree cI cZ cJ a_t a_t_parameters a_t_length a_t_now a_t_met a_t_any a_t_number a_t_newLength a_t_first a_t_anew a_t_table a_t_inputs a_t_outAny a_t_out a_t_at a_t_in a_t_back a_t_register a_t_output a_t_calls a_t_latest a_t_differ t_code t_own t_count t_tableSize t_given t_known t_news t_depth t_steps t_taken t_shown t_outcome t_parameters t_length t_now t_met t_any t_number) → lv_has ls 8 [(0, .ref a_t), (1, .int x1), (2, .int x2), (3, .int x3), (4, .int x4)] → W p l e r_X8_agree s m args below meth c H locs 0 0 (MQ below (g_Qi dC dI cI cZ cJ A (w_X8_agree cI cZ cJ a_t a_t_parameters a_t_length a_t_now a_t_met a_t_any a_t_number a_t_newLength a_t_first a_t_anew a_t_table a_t_inputs a_t_outAny a_t_out a_t_at a_t_in a_t_back a_t_register a_t_output a_t_calls a_t_latest a_t_differ t_code t_own t_count t_tableSize t_given t_known t_news t_depth t_steps t_taken t_shown t_outcome t_parameters t_length t_now t_met t_any t_number) out) args s 0 0 A) (F0 m 40 ls []) := by
  have hx := hC.1
  have hb := hC.2.1
  have hown := hC.2.2.2.2.1
  have hts := hC.2.2.2.2.2.1
  intro n
  induction n with
  | zero =>
    intro x3 x4 out hf
    exact g_no hf
  | succ n ih =>
    intro x3 x4 out hf H locs ls hW hl
    refine lv_iload hx hb dX8_agree_40 (lv_at hl 4 rfl) ?_
    refine lv_aload_n hx hb dX8_agree_42 rfl (lv_at hl 0 rfl) ?_
    refine gs_get hC hW in_X8 0 3 rfl rfl (by decide) fl_X8_7 rfl dX8_agree_43 ?_
    refine lv_aload_n hx hb dX8_agree_46 rfl (lv_at hl 0 rfl) ?_
    refine gs_get hC hW in_X8 0 7 rfl rfl (by decide) fl_X8_22 rfl dX8_agree_47 ?_
    refine lv_bipush (v := 6) hx hb dX8_agree_50 (by decide) ?_
    refine lv_iload_n hx hb dX8_agree_52 rfl (lv_at hl 1 rfl) ?_
    refine lv_imul hx hb dX8_agree_53 ?_
    refine lv_iconst (v := 2) hx hb dX8_agree_54 (by decide) ?_
    refine lv_iadd hx hb dX8_agree_55 ?_
    obtain ⟨v1, h1, hf⟩ := g_bnd hf
    refine gs_iald hC hW 3 h1 rfl dX8_agree_56 ?_
    obtain ⟨v2, h2, hf⟩ := g_bnd hf
    refine gs_iald hC hW 1 h2 rfl dX8_agree_57 ?_
    refine lv_icmp_ge (tgt := 164) hx hb dX8_agree_58 (by decide) (fun c3 => ?_) (fun c3 => ?_)
    · replace hf := (if_pos c3).symm.trans hf
      refine lv_iload_n hx hb dX8_agree_164 rfl (lv_at hl 3 rfl) ?_
      obtain ⟨v4, h4, hf⟩ := g_bnd hf
      obtain ⟨rfl, hn, -⟩ := g_zr_ok h4
      obtain rfl := Option.some.inj hf
      exact gs_rz hC hW rfl hn dX8_agree_165
    · replace hf := (if_neg c3).symm.trans hf
      refine lv_aload_n hx hb dX8_agree_61 rfl (lv_at hl 0 rfl) ?_
      refine gs_get hC hW in_X8 0 7 rfl rfl (by decide) fl_X8_22 rfl dX8_agree_62 ?_
      refine lv_bipush (v := 6) hx hb dX8_agree_65 (by decide) ?_
      refine lv_iload_n hx hb dX8_agree_67 rfl (lv_at hl 1 rfl) ?_
      refine lv_imul hx hb dX8_agree_68 ?_
      refine lv_iconst (v := 3) hx hb dX8_agree_69 (by decide) ?_
      refine lv_iadd hx hb dX8_agree_70 ?_
      refine lv_iload hx hb dX8_agree_71 (lv_at hl 4 rfl) ?_
      refine lv_iadd hx hb dX8_agree_73 ?_
      obtain ⟨v5, h5, hf⟩ := g_bnd hf
      refine gs_iald hC hW 3 h5 rfl dX8_agree_74 ?_
      refine lv_istore (lv' := [(5, .int v5), (0, .ref a_t), (1, .int x1), (2, .int x2), (3, .int x3), (4, .int x4)]) hx hb dX8_agree_75 hl (by decide) rfl (fun ls hl => ?_)
      refine lv_aload_n hx hb dX8_agree_77 rfl (lv_at hl 1 rfl) ?_
      refine gs_get hC hW in_X8 0 7 rfl rfl (by decide) fl_X8_22 rfl dX8_agree_78 ?_
      refine lv_bipush (v := 6) hx hb dX8_agree_81 (by decide) ?_
      refine lv_iload_n hx hb dX8_agree_83 rfl (lv_at hl 3 rfl) ?_
      refine lv_imul hx hb dX8_agree_84 ?_
      refine lv_iconst (v := 3) hx hb dX8_agree_85 (by decide) ?_
      refine lv_iadd hx hb dX8_agree_86 ?_
      refine lv_iload hx hb dX8_agree_87 (lv_at hl 5 rfl) ?_
      refine lv_iadd hx hb dX8_agree_89 ?_
      obtain ⟨v6, h6, hf⟩ := g_bnd hf
      refine gs_iald hC hW 3 h6 rfl dX8_agree_90 ?_
      refine lv_istore (lv' := [(6, .int v6), (5, .int v5), (0, .ref a_t), (1, .int x1), (2, .int x2), (3, .int x3), (4, .int x4)]) hx hb dX8_agree_91 hl (by decide) rfl (fun ls hl => ?_)
      refine lv_aload_n hx hb dX8_agree_93 rfl (lv_at hl 2 rfl) ?_
      refine lv_iload_n hx hb dX8_agree_94 rfl (lv_at hl 3 rfl) ?_
      obtain ⟨o7, h7, hf⟩ := g_bnd hf
      refine gs_callSi (ws' := w_X8_agree cI cZ cJ a_t a_t_parameters a_t_length a_t_now a_t_met a_t_any a_t_number a_t_newLength a_t_first a_t_anew a_t_table a_t_inputs a_t_outAny a_t_out a_t_at a_t_in a_t_back a_t_register a_t_output a_t_calls a_t_latest a_t_differ t_code t_own t_count t_tableSize t_given t_known t_news t_depth t_steps t_taken t_shown t_outcome t_parameters t_length t_now t_met t_any t_number) hC hW (k_X8_placeOf l tA dC dI cI cZ cJ x1 _ h7) yk_X8_placeOf lk_X8_155 is_X8_placeOf ⟨rfl, rfl⟩ ⟨Nat.le_of_ble_eq_true rfl, Nat.le_of_ble_eq_true rfl⟩ hl.1 [] [0, 1, 2, 3, 4, 5, 6] [0, 1, 2, 3, 4, 5, 6] rfl rfl rfl rfl (by decide) rfl rfl rfl rfl (Nat.le_of_ble_eq_true rfl) dX8_agree_95 ⟨Nat.zero_le _, Nat.zero_le _⟩ (fun H locs hW => ?_)
      refine lv_iload hx hb dX8_agree_98 (lv_at hl 1 rfl) ?_
      obtain ⟨o8, h8, hf⟩ := g_bnd hf
      refine gs_callVi (ws' := w_X8_agree cI cZ cJ a_t a_t_parameters a_t_length a_t_now a_t_met a_t_any a_t_number a_t_newLength a_t_first a_t_anew a_t_table a_t_inputs a_t_outAny a_t_out a_t_at a_t_in a_t_back a_t_register a_t_output a_t_calls a_t_latest a_t_differ t_code t_own t_count t_tableSize t_given t_known t_news t_depth t_steps t_taken t_shown t_outcome t_parameters t_length t_now t_met t_any t_number) hC hW (k_X8_has l tA dC dI cI cZ cJ a_t a_t_any a_t_parameters a_t_length a_t_newLength a_t_first a_t_now a_t_anew a_t_table a_t_inputs a_t_met a_t_number a_t_outAny a_t_out a_t_at a_t_in a_t_back a_t_register a_t_output a_t_calls a_t_latest a_t_differ o7 v5 t_code t_own t_count t_tableSize t_given t_known t_news t_depth t_steps t_taken t_shown t_outcome t_any _ h8) yk_X8_has lk_X8_118 iv_X8_has ⟨rfl, rfl⟩ ⟨Nat.le_of_ble_eq_true rfl, Nat.le_of_ble_eq_true rfl⟩ hl.1 0 rfl rfl [0, 5] [1, 2, 3, 4, 6] [5, 0, 1, 2, 3, 6, 4] rfl rfl rfl rfl (by decide) rfl rfl rfl rfl (Nat.le_of_ble_eq_true rfl) dX8_agree_100 ⟨Nat.zero_le _, Nat.zero_le _⟩ (fun H locs hW => ?_)
      refine lv_istore (lv' := [(7, .int o8), (6, .int v6), (5, .int v5), (0, .ref a_t), (1, .int x1), (2, .int x2), (3, .int x3), (4, .int x4)]) hx hb dX8_agree_103 hl (by decide) rfl (fun ls hl => ?_)
      refine lv_iload_n hx hb dX8_agree_105 rfl (lv_at hl 6 rfl) ?_
      refine lv_if_eq (tgt := 156) hx hb dX8_agree_106 (by decide) (fun c9 => ?_) (fun c9 => ?_)
      · replace hf := (if_pos c9).symm.trans hf
        refine lv_iconst (v := 0) hx hb dX8_agree_156 (by decide) ?_
        refine lv_istore_n (lv' := [(3, .int 0), (7, .int o8), (6, .int v6), (5, .int v5), (0, .ref a_t), (1, .int x1), (2, .int x2), (4, .int x4)]) hx hb dX8_agree_157 rfl hl (by decide) rfl (fun ls hl => ?_)
        refine lv_iinc (v := x4 + 1) (lv' := [(4, .int (x4 + 1)), (3, .int 0), (7, .int o8), (6, .int v6), (5, .int v5), (0, .ref a_t), (1, .int x1), (2, .int x2)]) hx hb dX8_agree_158 hl (k := 7) rfl rfl (by decide) rfl (fun ls hl => ?_)
        refine lv_goto (tgt := 40) hx hb dX8_agree_161 (by decide) ?_
        exact ih _ _ _ hf _ _ _ hW (lv_sub hl [5, 6, 7, 1, 0] rfl)
      · replace hf := (if_neg c9).symm.trans hf
        refine lv_iload hx hb dX8_agree_109 (lv_at hl 0 rfl) ?_
        refine lv_aload_n hx hb dX8_agree_111 rfl (lv_at hl 3 rfl) ?_
        refine lv_iload_n hx hb dX8_agree_112 rfl (lv_at hl 5 rfl) ?_
        obtain ⟨o10, h10, hf⟩ := g_bnd hf
        refine gs_callSi (ws' := w_X8_agree cI cZ cJ a_t a_t_parameters a_t_length a_t_now a_t_met a_t_any a_t_number a_t_newLength a_t_first a_t_anew a_t_table a_t_inputs a_t_outAny a_t_out a_t_at a_t_in a_t_back a_t_register a_t_output a_t_calls a_t_latest a_t_differ t_code t_own t_count t_tableSize t_given t_known t_news t_depth t_steps t_taken t_shown t_outcome t_parameters t_length t_now t_met t_any t_number) hC hW (k_X8_placeOf l tA dC dI cI cZ cJ x2 _ h10) yk_X8_placeOf lk_X8_155 is_X8_placeOf ⟨rfl, rfl⟩ ⟨Nat.le_of_ble_eq_true rfl, Nat.le_of_ble_eq_true rfl⟩ hl.1 [] [0, 1, 2, 3, 4, 5, 6] [0, 1, 2, 3, 4, 5, 6] rfl rfl rfl rfl (by decide) rfl rfl rfl rfl (Nat.le_of_ble_eq_true rfl) dX8_agree_113 ⟨Nat.zero_le _, Nat.zero_le _⟩ (fun H locs hW => ?_)
        refine lv_iload hx hb dX8_agree_116 (lv_at hl 1 rfl) ?_
        obtain ⟨o11, h11, hf⟩ := g_bnd hf
        refine gs_callVi (ws' := w_X8_agree cI cZ cJ a_t a_t_parameters a_t_length a_t_now a_t_met a_t_any a_t_number a_t_newLength a_t_first a_t_anew a_t_table a_t_inputs a_t_outAny a_t_out a_t_at a_t_in a_t_back a_t_register a_t_output a_t_calls a_t_latest a_t_differ t_code t_own t_count t_tableSize t_given t_known t_news t_depth t_steps t_taken t_shown t_outcome t_parameters t_length t_now t_met t_any t_number) hC hW (k_X8_has l tA dC dI cI cZ cJ a_t a_t_any a_t_parameters a_t_length a_t_newLength a_t_first a_t_now a_t_anew a_t_table a_t_inputs a_t_met a_t_number a_t_outAny a_t_out a_t_at a_t_in a_t_back a_t_register a_t_output a_t_calls a_t_latest a_t_differ o10 v6 t_code t_own t_count t_tableSize t_given t_known t_news t_depth t_steps t_taken t_shown t_outcome t_any _ h11) yk_X8_has lk_X8_118 iv_X8_has ⟨rfl, rfl⟩ ⟨Nat.le_of_ble_eq_true rfl, Nat.le_of_ble_eq_true rfl⟩ hl.1 0 rfl rfl [0, 5] [1, 2, 3, 4, 6] [5, 0, 1, 2, 3, 6, 4] rfl rfl rfl rfl (by decide) rfl rfl rfl rfl (Nat.le_of_ble_eq_true rfl) dX8_agree_118 ⟨Nat.zero_le _, Nat.zero_le _⟩ (fun H locs hW => ?_)
        refine lv_icmp_ne (tgt := 156) hx hb dX8_agree_121 (by decide) (fun c12 => ?_) (fun c12 => ?_)
        · replace hf := (if_neg c12).symm.trans hf
          refine lv_iconst (v := 0) hx hb dX8_agree_156 (by decide) ?_
          refine lv_istore_n (lv' := [(3, .int 0), (7, .int o8), (6, .int v6), (5, .int v5), (0, .ref a_t), (1, .int x1), (2, .int x2), (4, .int x4)]) hx hb dX8_agree_157 rfl hl (by decide) rfl (fun ls hl => ?_)
          refine lv_iinc (v := x4 + 1) (lv' := [(4, .int (x4 + 1)), (3, .int 0), (7, .int o8), (6, .int v6), (5, .int v5), (0, .ref a_t), (1, .int x1), (2, .int x2)]) hx hb dX8_agree_158 hl (k := 7) rfl rfl (by decide) rfl (fun ls hl => ?_)
          refine lv_goto (tgt := 40) hx hb dX8_agree_161 (by decide) ?_
          exact ih _ _ _ hf _ _ _ hW (lv_sub hl [5, 6, 7, 1, 0] rfl)
        · replace hf := (if_pos c12).symm.trans hf
          refine lv_iload hx hb dX8_agree_124 (lv_at hl 0 rfl) ?_
          refine lv_if_eq (tgt := 152) hx hb dX8_agree_126 (by decide) (fun c13 => ?_) (fun c13 => ?_)
          · replace hf := (if_pos c13).symm.trans hf
            refine lv_iconst (v := 1) hx hb dX8_agree_152 (by decide) ?_
            refine lv_goto (tgt := 157) hx hb dX8_agree_153 (by decide) ?_
            refine lv_istore_n (lv' := [(3, .int 1), (7, .int o8), (6, .int v6), (5, .int v5), (0, .ref a_t), (1, .int x1), (2, .int x2), (4, .int x4)]) hx hb dX8_agree_157 rfl hl (by decide) rfl (fun ls hl => ?_)
            refine lv_iinc (v := x4 + 1) (lv' := [(4, .int (x4 + 1)), (3, .int 1), (7, .int o8), (6, .int v6), (5, .int v5), (0, .ref a_t), (1, .int x1), (2, .int x2)]) hx hb dX8_agree_158 hl (k := 7) rfl rfl (by decide) rfl (fun ls hl => ?_)
            refine lv_goto (tgt := 40) hx hb dX8_agree_161 (by decide) ?_
            exact ih _ _ _ hf _ _ _ hW (lv_sub hl [5, 6, 7, 1, 0] rfl)
          · replace hf := (if_neg c13).symm.trans hf
            refine lv_aload_n hx hb dX8_agree_129 rfl (lv_at hl 3 rfl) ?_
            refine lv_iload_n hx hb dX8_agree_130 rfl (lv_at hl 4 rfl) ?_
            obtain ⟨o14, h14, hf⟩ := g_bnd hf
            refine gs_callSi (ws' := w_X8_agree cI cZ cJ a_t a_t_parameters a_t_length a_t_now a_t_met a_t_any a_t_number a_t_newLength a_t_first a_t_anew a_t_table a_t_inputs a_t_outAny a_t_out a_t_at a_t_in a_t_back a_t_register a_t_output a_t_calls a_t_latest a_t_differ t_code t_own t_count t_tableSize t_given t_known t_news t_depth t_steps t_taken t_shown t_outcome t_parameters t_length t_now t_met t_any t_number) hC hW (k_X8_placeOf l tA dC dI cI cZ cJ x1 _ h14) yk_X8_placeOf lk_X8_155 is_X8_placeOf ⟨rfl, rfl⟩ ⟨Nat.le_of_ble_eq_true rfl, Nat.le_of_ble_eq_true rfl⟩ hl.1 [] [0, 1, 2, 3, 4, 5, 6] [0, 1, 2, 3, 4, 5, 6] rfl rfl rfl rfl (by decide) rfl rfl rfl rfl (Nat.le_of_ble_eq_true rfl) dX8_agree_131 ⟨Nat.zero_le _, Nat.zero_le _⟩ (fun H locs hW => ?_)
            refine lv_iload hx hb dX8_agree_134 (lv_at hl 2 rfl) ?_
            obtain ⟨o15, h15, hf⟩ := g_bnd hf
            refine gs_callVi (ws' := w_X8_agree cI cZ cJ a_t a_t_parameters a_t_length a_t_now a_t_met a_t_any a_t_number a_t_newLength a_t_first a_t_anew a_t_table a_t_inputs a_t_outAny a_t_out a_t_at a_t_in a_t_back a_t_register a_t_output a_t_calls a_t_latest a_t_differ t_code t_own t_count t_tableSize t_given t_known t_news t_depth t_steps t_taken t_shown t_outcome t_parameters t_length t_now t_met t_any t_number) hC hW (k_X8_valueAt l tA dC dI cI cZ cJ a_t a_t_number a_t_parameters a_t_length a_t_newLength a_t_first a_t_now a_t_anew a_t_table a_t_inputs a_t_met a_t_any a_t_outAny a_t_out a_t_at a_t_in a_t_back a_t_register a_t_output a_t_calls a_t_latest a_t_differ o14 v5 t_code t_own t_count t_tableSize t_given t_known t_news t_depth t_steps t_taken t_shown t_outcome t_number _ h15) yk_X8_valueAt lk_X8_122 iv_X8_valueAt ⟨rfl, rfl⟩ ⟨Nat.le_of_ble_eq_true rfl, Nat.le_of_ble_eq_true rfl⟩ hl.1 0 rfl rfl [0, 6] [1, 2, 3, 4, 5] [5, 0, 1, 2, 3, 4, 6] rfl rfl rfl rfl (by decide) rfl rfl rfl rfl (Nat.le_of_ble_eq_true rfl) dX8_agree_136 ⟨Nat.zero_le _, Nat.zero_le _⟩ (fun H locs hW => ?_)
            refine lv_aload_n hx hb dX8_agree_139 rfl (lv_at hl 3 rfl) ?_
            refine lv_iload_n hx hb dX8_agree_140 rfl (lv_at hl 5 rfl) ?_
            obtain ⟨o16, h16, hf⟩ := g_bnd hf
            refine gs_callSi (ws' := w_X8_agree cI cZ cJ a_t a_t_parameters a_t_length a_t_now a_t_met a_t_any a_t_number a_t_newLength a_t_first a_t_anew a_t_table a_t_inputs a_t_outAny a_t_out a_t_at a_t_in a_t_back a_t_register a_t_output a_t_calls a_t_latest a_t_differ t_code t_own t_count t_tableSize t_given t_known t_news t_depth t_steps t_taken t_shown t_outcome t_parameters t_length t_now t_met t_any t_number) hC hW (k_X8_placeOf l tA dC dI cI cZ cJ x2 _ h16) yk_X8_placeOf lk_X8_155 is_X8_placeOf ⟨rfl, rfl⟩ ⟨Nat.le_of_ble_eq_true rfl, Nat.le_of_ble_eq_true rfl⟩ hl.1 [] [0, 1, 2, 3, 4, 5, 6] [0, 1, 2, 3, 4, 5, 6] rfl rfl rfl rfl (by decide) rfl rfl rfl rfl (Nat.le_of_ble_eq_true rfl) dX8_agree_141 ⟨Nat.zero_le _, Nat.zero_le _⟩ (fun H locs hW => ?_)
            refine lv_iload hx hb dX8_agree_144 (lv_at hl 1 rfl) ?_
            obtain ⟨o17, h17, hf⟩ := g_bnd hf
            refine gs_callVi (ws' := w_X8_agree cI cZ cJ a_t a_t_parameters a_t_length a_t_now a_t_met a_t_any a_t_number a_t_newLength a_t_first a_t_anew a_t_table a_t_inputs a_t_outAny a_t_out a_t_at a_t_in a_t_back a_t_register a_t_output a_t_calls a_t_latest a_t_differ t_code t_own t_count t_tableSize t_given t_known t_news t_depth t_steps t_taken t_shown t_outcome t_parameters t_length t_now t_met t_any t_number) hC hW (k_X8_valueAt l tA dC dI cI cZ cJ a_t a_t_number a_t_parameters a_t_length a_t_newLength a_t_first a_t_now a_t_anew a_t_table a_t_inputs a_t_met a_t_any a_t_outAny a_t_out a_t_at a_t_in a_t_back a_t_register a_t_output a_t_calls a_t_latest a_t_differ o16 v6 t_code t_own t_count t_tableSize t_given t_known t_news t_depth t_steps t_taken t_shown t_outcome t_number _ h17) yk_X8_valueAt lk_X8_122 iv_X8_valueAt ⟨rfl, rfl⟩ ⟨Nat.le_of_ble_eq_true rfl, Nat.le_of_ble_eq_true rfl⟩ hl.1 0 rfl rfl [0, 6] [1, 2, 3, 4, 5] [5, 0, 1, 2, 3, 4, 6] rfl rfl rfl rfl (by decide) rfl rfl rfl rfl (Nat.le_of_ble_eq_true rfl) dX8_agree_146 ⟨Nat.zero_le _, Nat.zero_le _⟩ (fun H locs hW => ?_)
            refine lv_icmp_ne (tgt := 156) hx hb dX8_agree_149 (by decide) (fun c18 => ?_) (fun c18 => ?_)
            · replace hf := (if_neg c18).symm.trans hf
              refine lv_iconst (v := 0) hx hb dX8_agree_156 (by decide) ?_
              refine lv_istore_n (lv' := [(3, .int 0), (7, .int o8), (6, .int v6), (5, .int v5), (0, .ref a_t), (1, .int x1), (2, .int x2), (4, .int x4)]) hx hb dX8_agree_157 rfl hl (by decide) rfl (fun ls hl => ?_)
              refine lv_iinc (v := x4 + 1) (lv' := [(4, .int (x4 + 1)), (3, .int 0), (7, .int o8), (6, .int v6), (5, .int v5), (0, .ref a_t), (1, .int x1), (2, .int x2)]) hx hb dX8_agree_158 hl (k := 7) rfl rfl (by decide) rfl (fun ls hl => ?_)
              refine lv_goto (tgt := 40) hx hb dX8_agree_161 (by decide) ?_
              exact ih _ _ _ hf _ _ _ hW (lv_sub hl [5, 6, 7, 1, 0] rfl)
            · replace hf := (if_pos c18).symm.trans hf
              refine lv_iconst (v := 1) hx hb dX8_agree_152 (by decide) ?_
              refine lv_goto (tgt := 157) hx hb dX8_agree_153 (by decide) ?_
              refine lv_istore_n (lv' := [(3, .int 1), (7, .int o8), (6, .int v6), (5, .int v5), (0, .ref a_t), (1, .int x1), (2, .int x2), (4, .int x4)]) hx hb dX8_agree_157 rfl hl (by decide) rfl (fun ls hl => ?_)
              refine lv_iinc (v := x4 + 1) (lv' := [(4, .int (x4 + 1)), (3, .int 1), (7, .int o8), (6, .int v6), (5, .int v5), (0, .ref a_t), (1, .int x1), (2, .int x2)]) hx hb dX8_agree_158 hl (k := 7) rfl rfl (by decide) rfl (fun ls hl => ?_)
              refine lv_goto (tgt := 40) hx hb dX8_agree_161 (by decide) ?_
              exact ih _ _ _ hf _ _ _ hW (lv_sub hl [5, 6, 7, 1, 0] rfl)
def f_X8_agree (N : Nat) (x1 : Int32) (x2 : Int32) (t_parameters : Nat → Int32) (t_length : Nat → Int32) (t_now : Nat → Int32) (t_met : Nat → Int32) (t_any : Nat → Int32) (t_number : Nat → Int32) : Option (Int32) := (f_X8_isCall x2 t_length t_now t_met).bind (fun o19 => if o19 = 0 then some 0 else (g_rd 1152 t_now ((6 * x2) + 2)).bind (fun v21 => (g_rd 1152 t_now ((6 * x1) + 2)).bind (fun v22 => if v21 = v22 then f_X8_agree_40 N x1 x2 t_parameters t_length t_now t_met t_any t_number N 1 0 else some 0)))
set_option maxHeartbeats 4000000 in
set_option maxRecDepth 100000 in
theorem k_X8_agree (l : Launch) (tA : Nat) (dC : Nat → ClassId) (dI : Nat → Nat → Nat) (cI cZ cJ : ClassId) (a_t : Nat) (a_t_parameters : Nat) (a_t_length : Nat) (a_t_now : Nat) (a_t_met : Nat) (a_t_any : Nat) (a_t_number : Nat) (a_t_newLength : Nat) (a_t_first : Nat) (a_t_anew : Nat) (a_t_table : Nat) (a_t_inputs : Nat) (a_t_outAny : Nat) (a_t_out : Nat) (a_t_at : Nat) (a_t_in : Nat) (a_t_back : Nat) (a_t_register : Nat) (a_t_output : Nat) (a_t_calls : Nat) (a_t_latest : Nat) (a_t_differ : Nat) (N : Nat) (x1 : Int32) (x2 : Int32) (t_code : Int32) (t_own : Int32) (t_count : Int32) (t_tableSize : Int32) (t_given : Int32) (t_known : Int32) (t_news : Int32) (t_depth : Int32) (t_steps : Int32) (t_taken : Int32) (t_shown : Int32) (t_outcome : Int32) (t_parameters : Nat → Int32) (t_length : Nat → Int32) (t_now : Nat → Int32) (t_met : Nat → Int32) (t_any : Nat → Int32) (t_number : Nat → Int32) (out : Int32) (hf : f_X8_agree N x1 x2 t_parameters t_length t_now t_met t_any t_number = some out) : g_Mi l yX8_agree cX8_agree 8 (some .boolean) r_X8_agree tA dC dI cI cZ cJ [.ref a_t, .int x1, .int x2] (w_X8_agree cI cZ cJ a_t a_t_parameters a_t_length a_t_now a_t_met a_t_any a_t_number a_t_newLength a_t_first a_t_anew a_t_table a_t_inputs a_t_outAny a_t_out a_t_at a_t_in a_t_back a_t_register a_t_output a_t_calls a_t_latest a_t_differ t_code t_own t_count t_tableSize t_given t_known t_news t_depth t_steps t_taken t_shown t_outcome t_parameters t_length t_now t_met t_any t_number) (w_X8_agree cI cZ cJ a_t a_t_parameters a_t_length a_t_now a_t_met a_t_any a_t_number a_t_newLength a_t_first a_t_anew a_t_table a_t_inputs a_t_outAny a_t_out a_t_at a_t_in a_t_back a_t_register a_t_output a_t_calls a_t_latest a_t_differ t_code t_own t_count t_tableSize t_given t_known t_news t_depth t_steps t_taken t_shown t_outcome t_parameters t_length t_now t_met t_any t_number) out := by
  unfold f_X8_agree at hf
  refine ge_i (by decide) (Nat.le_of_ble_eq_true rfl) (fun p e s m below meth c A H locs ls hC hW hl => ?_)
  have hC : g_C p s m meth c _ cX8_agree 8 (some .boolean) RX8 := hC
  have hx := hC.1
  have hb := hC.2.1
  have hown := hC.2.2.2.2.1
  have hts := hC.2.2.2.2.2.1
  have hl : lv_has ls 8 [(0, .ref a_t), (1, .int x1), (2, .int x2)] := hl
  refine lv_aload_n hx hb dX8_agree_0 rfl (lv_at hl 0 rfl) ?_
  refine lv_iload_n hx hb dX8_agree_1 rfl (lv_at hl 2 rfl) ?_
  obtain ⟨o19, h19, hf⟩ := g_bnd hf
  refine gs_callVi (ws' := w_X8_agree cI cZ cJ a_t a_t_parameters a_t_length a_t_now a_t_met a_t_any a_t_number a_t_newLength a_t_first a_t_anew a_t_table a_t_inputs a_t_outAny a_t_out a_t_at a_t_in a_t_back a_t_register a_t_output a_t_calls a_t_latest a_t_differ t_code t_own t_count t_tableSize t_given t_known t_news t_depth t_steps t_taken t_shown t_outcome t_parameters t_length t_now t_met t_any t_number) hC hW (k_X8_isCall l tA dC dI cI cZ cJ a_t a_t_length a_t_now a_t_met a_t_parameters a_t_newLength a_t_first a_t_anew a_t_table a_t_inputs a_t_any a_t_number a_t_outAny a_t_out a_t_at a_t_in a_t_back a_t_register a_t_output a_t_calls a_t_latest a_t_differ x2 t_code t_own t_count t_tableSize t_given t_known t_news t_depth t_steps t_taken t_shown t_outcome t_length t_now t_met _ h19) yk_X8_isCall lk_X8_152 iv_X8_isCall ⟨rfl, rfl⟩ ⟨Nat.le_of_ble_eq_true rfl, Nat.le_of_ble_eq_true rfl⟩ hl.1 0 rfl rfl [0, 2, 3, 4] [1, 5, 6] [3, 0, 4, 5, 6, 1, 2] rfl rfl rfl rfl (by decide) rfl rfl rfl rfl (Nat.le_of_ble_eq_true rfl) dX8_agree_2 ⟨Nat.zero_le _, Nat.zero_le _⟩ (fun H locs hW => ?_)
  refine lv_if_eq (tgt := 33) hx hb dX8_agree_5 (by decide) (fun c20 => ?_) (fun c20 => ?_)
  · replace hf := (if_pos c20).symm.trans hf
    refine lv_iconst (v := 0) hx hb dX8_agree_33 (by decide) ?_
    obtain rfl := Option.some.inj hf
    exact gs_rz hC hW rfl g_n0 dX8_agree_34
  · replace hf := (if_neg c20).symm.trans hf
    refine lv_aload_n hx hb dX8_agree_8 rfl (lv_at hl 0 rfl) ?_
    refine gs_get hC hW in_X8 0 7 rfl rfl (by decide) fl_X8_22 rfl dX8_agree_9 ?_
    refine lv_bipush (v := 6) hx hb dX8_agree_12 (by decide) ?_
    refine lv_iload_n hx hb dX8_agree_14 rfl (lv_at hl 2 rfl) ?_
    refine lv_imul hx hb dX8_agree_15 ?_
    refine lv_iconst (v := 2) hx hb dX8_agree_16 (by decide) ?_
    refine lv_iadd hx hb dX8_agree_17 ?_
    obtain ⟨v21, h21, hf⟩ := g_bnd hf
    refine gs_iald hC hW 3 h21 rfl dX8_agree_18 ?_
    refine lv_aload_n hx hb dX8_agree_19 rfl (lv_at hl 0 rfl) ?_
    refine gs_get hC hW in_X8 0 7 rfl rfl (by decide) fl_X8_22 rfl dX8_agree_20 ?_
    refine lv_bipush (v := 6) hx hb dX8_agree_23 (by decide) ?_
    refine lv_iload_n hx hb dX8_agree_25 rfl (lv_at hl 1 rfl) ?_
    refine lv_imul hx hb dX8_agree_26 ?_
    refine lv_iconst (v := 2) hx hb dX8_agree_27 (by decide) ?_
    refine lv_iadd hx hb dX8_agree_28 ?_
    obtain ⟨v22, h22, hf⟩ := g_bnd hf
    refine gs_iald hC hW 3 h22 rfl dX8_agree_29 ?_
    refine lv_icmp_eq (tgt := 35) hx hb dX8_agree_30 (by decide) (fun c23 => ?_) (fun c23 => ?_)
    · replace hf := (if_pos c23).symm.trans hf
      refine lv_iconst (v := 1) hx hb dX8_agree_35 (by decide) ?_
      refine lv_istore_n (lv' := [(3, .int 1), (0, .ref a_t), (1, .int x1), (2, .int x2)]) hx hb dX8_agree_36 rfl hl (by decide) rfl (fun ls hl => ?_)
      refine lv_iconst (v := 0) hx hb dX8_agree_37 (by decide) ?_
      refine lv_istore (lv' := [(4, .int 0), (3, .int 1), (0, .ref a_t), (1, .int x1), (2, .int x2)]) hx hb dX8_agree_38 hl (by decide) rfl (fun ls hl => ?_)
      exact b_X8_agree_40 hC N _ _ _ hf _ _ _ hW (lv_sub hl [2, 3, 4, 1, 0] rfl)
    · replace hf := (if_neg c23).symm.trans hf
      refine lv_iconst (v := 0) hx hb dX8_agree_33 (by decide) ?_
      obtain rfl := Option.some.inj hf
      exact gs_rz hC hW rfl g_n0 dX8_agree_34
