theorem fl_X8_53 : Cond.fieldLink RX8 53 (TX8 25).1 (TX8 25).2.1 (TX8 25).2.2.1 ∈ gw := gw_i 805 (by decide +kernel) rfl
theorem fl_X8_50 : Cond.fieldLink RX8 50 (TX8 24).1 (TX8 24).2.1 (TX8 24).2.2.1 ∈ gw := gw_i 804 (by decide +kernel) rfl
theorem fl_X8_56 : Cond.fieldLink RX8 56 (TX8 26).1 (TX8 26).2.1 (TX8 26).2.2.1 ∈ gw := gw_i 806 (by decide +kernel) rfl
theorem yk_X8_note : g_Y yX8_note cX8_note 4 (none : Option Jvm.ClassFile.FieldType) 3 := ⟨gw_i 1031 (by decide +kernel) rfl, gw_i 64 (by decide +kernel) rfl, by decide +kernel, by decide +kernel, by decide +kernel⟩
theorem lk_X8_186 : Cond.methodLink RX8 186 yX8_note ∈ gw := gw_i 1028 (by decide +kernel) rfl
theorem iv_X8_note : Cond.instanceMethod yX8_note ∈ gw ∧ Cond.selects RX8 yX8_note yX8_note ∈ gw := ⟨gw_i 1030 (by decide +kernel) rfl, gw_i 49 (by decide +kernel) rfl⟩
theorem yk_X8_valueOf : g_Y yX8_valueOf cX8_valueOf 2 (some .int) 1 := ⟨gw_i 1027 (by decide +kernel) rfl, gw_i 64 (by decide +kernel) rfl, by decide +kernel, by decide +kernel, by decide +kernel⟩
theorem lk_X8_183 : Cond.methodLink RX8 183 yX8_valueOf ∈ gw := gw_i 1024 (by decide +kernel) rfl
theorem iv_X8_valueOf : Cond.instanceMethod yX8_valueOf ∈ gw ∧ Cond.selects RX8 yX8_valueOf yX8_valueOf ∈ gw := ⟨gw_i 1026 (by decide +kernel) rfl, gw_i 48 (by decide +kernel) rfl⟩
theorem fl_X8_189 : Cond.fieldLink RX8 189 (TX8 22).1 (TX8 22).2.1 (TX8 22).2.2.1 ∈ gw := gw_i 802 (by decide +kernel) rfl
theorem fl_X8_192 : Cond.fieldLink RX8 192 (TX8 23).1 (TX8 23).2.1 (TX8 23).2.2.1 ∈ gw := gw_i 803 (by decide +kernel) rfl
theorem fl_X8_62 : Cond.fieldLink RX8 62 (TX8 28).1 (TX8 28).2.1 (TX8 28).2.2.1 ∈ gw := gw_i 808 (by decide +kernel) rfl
theorem yk_X8_giveBack : g_Y yX8_giveBack cX8_giveBack 2 (none : Option Jvm.ClassFile.FieldType) 1 := ⟨gw_i 1039 (by decide +kernel) rfl, gw_i 64 (by decide +kernel) rfl, by decide +kernel, by decide +kernel, by decide +kernel⟩
theorem lk_X8_195 : Cond.methodLink RX8 195 yX8_giveBack ∈ gw := gw_i 1036 (by decide +kernel) rfl
theorem iv_X8_giveBack : Cond.instanceMethod yX8_giveBack ∈ gw ∧ Cond.selects RX8 yX8_giveBack yX8_giveBack ∈ gw := ⟨gw_i 1038 (by decide +kernel) rfl, gw_i 51 (by decide +kernel) rfl⟩
theorem yk_X8_begin : g_Y yX8_begin cX8_begin 6 (some .boolean) 3 := ⟨gw_i 1023 (by decide +kernel) rfl, gw_i 64 (by decide +kernel) rfl, by decide +kernel, by decide +kernel, by decide +kernel⟩
theorem lk_X8_199 : Cond.methodLink RX8 199 yX8_begin ∈ gw := gw_i 1020 (by decide +kernel) rfl
theorem iv_X8_begin : Cond.instanceMethod yX8_begin ∈ gw ∧ Cond.selects RX8 yX8_begin yX8_begin ∈ gw := ⟨gw_i 1022 (by decide +kernel) rfl, gw_i 47 (by decide +kernel) rfl⟩
theorem fl_X8_203 : Cond.fieldLink RX8 203 (TX8 21).1 (TX8 21).2.1 (TX8 21).2.2.1 ∈ gw := gw_i 801 (by decide +kernel) rfl
theorem yk_X8_perform : g_Y yX8_perform cX8_perform 8 (some .boolean) 2 := ⟨gw_i 1043 (by decide +kernel) rfl, gw_i 64 (by decide +kernel) rfl, by decide +kernel, by decide +kernel, by decide +kernel⟩
theorem lk_X8_213 : Cond.methodLink RX8 213 yX8_perform ∈ gw := gw_i 1040 (by decide +kernel) rfl
theorem iv_X8_perform : Cond.instanceMethod yX8_perform ∈ gw ∧ Cond.selects RX8 yX8_perform yX8_perform ∈ gw := ⟨gw_i 1042 (by decide +kernel) rfl, gw_i 52 (by decide +kernel) rfl⟩
theorem fl_X8_206 : Cond.fieldLink RX8 206 (TX8 32).1 (TX8 32).2.1 (TX8 32).2.2.1 ∈ gw := gw_i 812 (by decide +kernel) rfl
theorem yk_X8_go : g_Y yX8_go cX8_go 5 (none : Option Jvm.ClassFile.FieldType) 2 := ⟨gw_i 1035 (by decide +kernel) rfl, gw_i 64 (by decide +kernel) rfl, by decide +kernel, by decide +kernel, by decide +kernel⟩
theorem lk_X8_209 : Cond.methodLink RX8 209 yX8_go ∈ gw := gw_i 1032 (by decide +kernel) rfl
theorem iv_X8_go : Cond.instanceMethod yX8_go ∈ gw ∧ Cond.selects RX8 yX8_go yX8_go ∈ gw := ⟨gw_i 1034 (by decide +kernel) rfl, gw_i 50 (by decide +kernel) rfl⟩
theorem yk_X8_fail : g_Y yX8_fail cX8_fail 2 (some .int) 1 := ⟨gw_i 1059 (by decide +kernel) rfl, gw_i 64 (by decide +kernel) rfl, by decide +kernel, by decide +kernel, by decide +kernel⟩
theorem lk_X8_217 : Cond.methodLink RX8 217 yX8_fail ∈ gw := gw_i 1056 (by decide +kernel) rfl
theorem iv_X8_fail : Cond.instanceMethod yX8_fail ∈ gw ∧ Cond.selects RX8 yX8_fail yX8_fail ∈ gw := ⟨gw_i 1058 (by decide +kernel) rfl, gw_i 53 (by decide +kernel) rfl⟩
theorem yk_X8_isNamed : g_Y yX8_isNamed cX8_isNamed 3 (some .boolean) 2 := ⟨gw_i 1071 (by decide +kernel) rfl, gw_i 64 (by decide +kernel) rfl, by decide +kernel, by decide +kernel, by decide +kernel⟩
theorem lk_X8_220 : Cond.methodLink RX8 220 yX8_isNamed ∈ gw := gw_i 1068 (by decide +kernel) rfl
theorem iv_X8_isNamed : Cond.instanceMethod yX8_isNamed ∈ gw ∧ Cond.selects RX8 yX8_isNamed yX8_isNamed ∈ gw := ⟨gw_i 1070 (by decide +kernel) rfl, gw_i 54 (by decide +kernel) rfl⟩
abbrev w_X8_begin (cI cZ cJ : ClassId) (a_t : Nat) (a_t_parameters : Nat) (a_t_first : Nat) (a_t_anew : Nat) (a_t_at : Nat) (a_t_in : Nat) (a_t_back : Nat) (a_t_register : Nat) (a_t_calls : Nat) (a_t_latest : Nat) (a_t_differ : Nat) (a_t_length : Nat) (a_t_newLength : Nat) (a_t_now : Nat) (a_t_table : Nat) (a_t_inputs : Nat) (a_t_met : Nat) (a_t_any : Nat) (a_t_number : Nat) (a_t_outAny : Nat) (a_t_out : Nat) (a_t_output : Nat) (t_code : Int32) (t_own : Int32) (t_count : Int32) (t_tableSize : Int32) (t_given : Int32) (t_known : Int32) (t_news : Int32) (t_depth : Int32) (t_steps : Int32) (t_taken : Int32) (t_shown : Int32) (t_outcome : Int32) (t_parameters : Nat → Int32) (t_first : Nat → Int32) (t_anew : Nat → Int32) (t_at : Nat → Int32) (t_in : Nat → Int32) (t_back : Nat → Int32) (t_register : Nat → Int32) (t_calls : Nat → Int32) (t_latest : Nat → Int32) (t_differ : Nat → Int32) : va_W := [(a_t, .inr (8, [.int t_code, .int t_own, .int t_count, .ref a_t_parameters, .ref a_t_length, .ref a_t_newLength, .ref a_t_first, .ref a_t_now, .ref a_t_anew, .int t_tableSize, .ref a_t_table, .int t_given, .ref a_t_inputs, .int t_known, .ref a_t_met, .ref a_t_any, .ref a_t_number, .int t_news, .ref a_t_outAny, .ref a_t_out, .int t_depth, .int t_steps, .int t_taken, .int t_shown, .ref a_t_at, .ref a_t_in, .ref a_t_back, .ref a_t_register, .ref a_t_output, .ref a_t_calls, .ref a_t_latest, .ref a_t_differ, .int t_outcome])), (a_t_parameters, .inl (cI, 12, .inl t_parameters)), (a_t_first, .inl (cI, 576, .inl t_first)), (a_t_anew, .inl (cI, 1152, .inl t_anew)), (a_t_at, .inl (cI, 11, .inl t_at)), (a_t_in, .inl (cI, 11, .inl t_in)), (a_t_back, .inl (cI, 11, .inl t_back)), (a_t_register, .inl (cI, 66, .inl t_register)), (a_t_calls, .inl (cI, 12, .inl t_calls)), (a_t_latest, .inl (cI, 36, .inl t_latest)), (a_t_differ, .inl (cZ, 36, .inl t_differ))]
abbrev r_X8_begin : Room := { frames := 2, cells := 0, slots := 0, locals := 41 }
def f_X8_begin_109 (N : Nat) (x1 : Int32) (x2 : Int32) (x3 : Int32) (t_parameters : Nat → Int32) (t_first : Nat → Int32) (t_anew : Nat → Int32) : Nat → Int32 → Int32 → (Nat → Int32) → (Nat → Int32) → (Nat → Int32) → (Nat → Int32) → (Nat → Int32) → (Nat → Int32) → (Nat → Int32) → Option (Int32 × Int32 × (Nat → Int32) × (Nat → Int32) × (Nat → Int32) × (Nat → Int32) × (Nat → Int32) × (Nat → Int32) × (Nat → Int32))
  | 0, _, _, _, _, _, _, _, _, _ => none
  | n + 1, x4, t_depth, t_at, t_in, t_back, t_register, t_calls, t_latest, t_differ => if 3 ≤ x4 then (g_rd 12 t_calls x2).bind (fun v2 => (g_wr 12 t_calls x2 (v2 + 1)).bind (fun s3 => (g_wr 11 t_in t_depth x2).bind (fun s4 => (g_wr 11 t_at t_depth 0).bind (fun s5 => if 0 ≤ x3 then if x1 = 0 then (g_rd 576 t_first (x3 + 1)).bind (fun v8 => (g_wr 11 t_back t_depth v8).bind (fun s9 => some (1, t_depth + 1, s5, s4, s9, t_register, s3, t_latest, t_differ))) else (g_rd 1152 t_anew (x3 + 1)).bind (fun v10 => (g_wr 11 t_back t_depth v10).bind (fun s11 => some (1, t_depth + 1, s5, s4, s11, t_register, s3, t_latest, t_differ))) else (g_wr 11 t_back t_depth 0).bind (fun s12 => some (1, t_depth + 1, s5, s4, s12, t_register, s3, t_latest, t_differ)))))) else (g_rd 12 t_parameters x2).bind (fun v13 => if v13 ≤ x4 then (f_X8_note x2 x4 0 t_calls t_latest t_differ).bind (fun o15 => f_X8_begin_109 N x1 x2 x3 t_parameters t_first t_anew n (x4 + 1) t_depth t_at t_in t_back t_register t_calls o15.1 o15.2) else (g_rd 66 t_register ((6 * t_depth) + x4)).bind (fun v16 => (f_X8_note x2 x4 v16 t_calls t_latest t_differ).bind (fun o17 => f_X8_begin_109 N x1 x2 x3 t_parameters t_first t_anew n (x4 + 1) t_depth t_at t_in t_back t_register t_calls o17.1 o17.2)))
set_option maxHeartbeats 4000000 in
set_option maxRecDepth 100000 in
theorem b_X8_begin_109 {p : Program} {l : Launch} {e : Env} {s : State} {m : MethodId} {args : Array Value} {below : List Frame} {meth : Method} {c : Code} {tA : Nat} {dC : Nat → ClassId} {dI : Nat → Nat → Nat} {cI cZ cJ : ClassId} {A : Nat → Prop} {a_t : Nat} {a_t_parameters : Nat} {a_t_first : Nat} {a_t_anew : Nat} {a_t_at : Nat} {a_t_in : Nat} {a_t_back : Nat} {a_t_register : Nat} {a_t_calls : Nat} {a_t_latest : Nat} {a_t_differ : Nat} {a_t_length : Nat} {a_t_newLength : Nat} {a_t_now : Nat} {a_t_table : Nat} {a_t_inputs : Nat} {a_t_met : Nat} {a_t_any : Nat} {a_t_number : Nat} {a_t_outAny : Nat} {a_t_out : Nat} {a_t_output : Nat} {x1 : Int32} {x2 : Int32} {x3 : Int32} {t_parameters : Nat → Int32} {t_first : Nat → Int32} {t_anew : Nat → Int32} {t_code : Int32} {t_own : Int32} {t_count : Int32} {t_tableSize : Int32} {t_given : Int32} {t_known : Int32} {t_news : Int32} {t_steps : Int32} {t_taken : Int32} {t_shown : Int32} {t_outcome : Int32} {N : Nat} (hC : g_C p s m meth c args cX8_begin 6 (some .boolean) RX8) :
    ∀ (n : Nat) (x4 : Int32) (t_depth : Int32) (t_at : Nat → Int32) (t_in : Nat → Int32) (t_back : Nat → Int32) (t_register : Nat → Int32) (t_calls : Nat → Int32) (t_latest : Nat → Int32) (t_differ : Nat → Int32) (out : Int32 × Int32 × (Nat → Int32) × (Nat → Int32) × (Nat → Int32) × (Nat → Int32) × (Nat → Int32) × (Nat → Int32) × (Nat → Int32)), f_X8_begin_109 N x1 x2 x3 t_parameters t_first t_anew n x4 t_depth t_at t_in t_back t_register t_calls t_latest t_differ = some out → ∀ (H : Heap) (locs : List Loc) (ls : Array Slot), g_W tA dC dI cI cZ cJ A s H locs (w_X8_begin cI cZ cJ a_t a_t_parameters a_t_first a_t_anew a_t_at a_t_in a_t_back a_t_register a_t_calls a_t_latest a_t_differ a_t_length a_t_newLength a_t_now a_t_table a_t_inputs a_t_met a_t_any a_t_number a_t_outAny a_t_out a_t_output t_code t_own t_count t_tableSize t_given t_known t_news t_depth t_steps t_taken t_shown t_outcome t_parameters t_first t_anew t_at t_in t_back t_register t_calls t_latest t_differ) → lv_has ls 6 [(0, .ref a_t), (1, .int x1), (2, .int x2), (3, .int x3), (4, .int x4)] → W p l e r_X8_begin s m args below meth c H locs 0 0 (MQ below (g_Qi dC dI cI cZ cJ A (w_X8_begin cI cZ cJ a_t a_t_parameters a_t_first a_t_anew a_t_at a_t_in a_t_back a_t_register a_t_calls a_t_latest a_t_differ a_t_length a_t_newLength a_t_now a_t_table a_t_inputs a_t_met a_t_any a_t_number a_t_outAny a_t_out a_t_output t_code t_own t_count t_tableSize t_given t_known t_news out.2.1 t_steps t_taken t_shown t_outcome t_parameters t_first t_anew out.2.2.1 out.2.2.2.1 out.2.2.2.2.1 out.2.2.2.2.2.1 out.2.2.2.2.2.2.1 out.2.2.2.2.2.2.2.1 out.2.2.2.2.2.2.2.2) out.1) args s 0 0 A) (F0 m 109 ls []) := by
  have hx := hC.1
  have hb := hC.2.1
  have hown := hC.2.2.2.2.1
  have hts := hC.2.2.2.2.2.1
  intro n
  induction n with
  | zero =>
    intro x4 t_depth t_at t_in t_back t_register t_calls t_latest t_differ out hf
    exact g_no hf
  | succ n ih =>
    intro x4 t_depth t_at t_in t_back t_register t_calls t_latest t_differ out hf H locs ls hW hl
    refine lv_iload hx hb dX8_begin_109 (lv_at hl 4 rfl) ?_
    refine lv_iconst (v := 3) hx hb dX8_begin_111 (by decide) ?_
    refine lv_icmp_ge (tgt := 158) hx hb dX8_begin_112 (by decide) (fun c1 => ?_) (fun c1 => ?_)
    · replace hf := (if_pos c1).symm.trans hf
      refine lv_aload_n hx hb dX8_begin_158 rfl (lv_at hl 0 rfl) ?_
      refine gs_get hC hW in_X8 0 29 rfl rfl (by decide) fl_X8_65 rfl dX8_begin_159 ?_
      refine lv_iload_n hx hb dX8_begin_162 rfl (lv_at hl 2 rfl) ?_
      refine lv_dup2_11 hx hb dX8_begin_163 rfl rfl ?_
      obtain ⟨v2, h2, hf⟩ := g_bnd hf
      refine gs_iald hC hW 8 h2 rfl dX8_begin_164 ?_
      refine lv_iconst (v := 1) hx hb dX8_begin_165 (by decide) ?_
      refine lv_iadd hx hb dX8_begin_166 ?_
      obtain ⟨s3, h3, hf⟩ := g_bnd hf
      refine gs_iast (ws' := w_X8_begin cI cZ cJ a_t a_t_parameters a_t_first a_t_anew a_t_at a_t_in a_t_back a_t_register a_t_calls a_t_latest a_t_differ a_t_length a_t_newLength a_t_now a_t_table a_t_inputs a_t_met a_t_any a_t_number a_t_outAny a_t_out a_t_output t_code t_own t_count t_tableSize t_given t_known t_news t_depth t_steps t_taken t_shown t_outcome t_parameters t_first t_anew t_at t_in t_back t_register s3 t_latest t_differ) hC hW 8 h3 rfl rfl dX8_begin_167 (fun H locs hW => ?_)
      refine lv_aload_n hx hb dX8_begin_168 rfl (lv_at hl 0 rfl) ?_
      refine gs_get hC hW in_X8 0 25 rfl rfl (by decide) fl_X8_53 rfl dX8_begin_169 ?_
      refine lv_aload_n hx hb dX8_begin_172 rfl (lv_at hl 0 rfl) ?_
      refine gs_get hC hW in_X8 0 20 rfl rfl (by decide) fl_X8_180 rfl dX8_begin_173 ?_
      refine lv_iload_n hx hb dX8_begin_176 rfl (lv_at hl 2 rfl) ?_
      obtain ⟨s4, h4, hf⟩ := g_bnd hf
      refine gs_iast (ws' := w_X8_begin cI cZ cJ a_t a_t_parameters a_t_first a_t_anew a_t_at a_t_in a_t_back a_t_register a_t_calls a_t_latest a_t_differ a_t_length a_t_newLength a_t_now a_t_table a_t_inputs a_t_met a_t_any a_t_number a_t_outAny a_t_out a_t_output t_code t_own t_count t_tableSize t_given t_known t_news t_depth t_steps t_taken t_shown t_outcome t_parameters t_first t_anew t_at s4 t_back t_register s3 t_latest t_differ) hC hW 5 h4 rfl rfl dX8_begin_177 (fun H locs hW => ?_)
      refine lv_aload_n hx hb dX8_begin_178 rfl (lv_at hl 0 rfl) ?_
      refine gs_get hC hW in_X8 0 24 rfl rfl (by decide) fl_X8_50 rfl dX8_begin_179 ?_
      refine lv_aload_n hx hb dX8_begin_182 rfl (lv_at hl 0 rfl) ?_
      refine gs_get hC hW in_X8 0 20 rfl rfl (by decide) fl_X8_180 rfl dX8_begin_183 ?_
      refine lv_iconst (v := 0) hx hb dX8_begin_186 (by decide) ?_
      obtain ⟨s5, h5, hf⟩ := g_bnd hf
      refine gs_iast (ws' := w_X8_begin cI cZ cJ a_t a_t_parameters a_t_first a_t_anew a_t_at a_t_in a_t_back a_t_register a_t_calls a_t_latest a_t_differ a_t_length a_t_newLength a_t_now a_t_table a_t_inputs a_t_met a_t_any a_t_number a_t_outAny a_t_out a_t_output t_code t_own t_count t_tableSize t_given t_known t_news t_depth t_steps t_taken t_shown t_outcome t_parameters t_first t_anew s5 s4 t_back t_register s3 t_latest t_differ) hC hW 4 h5 rfl rfl dX8_begin_187 (fun H locs hW => ?_)
      refine lv_aload_n hx hb dX8_begin_188 rfl (lv_at hl 0 rfl) ?_
      refine gs_get hC hW in_X8 0 26 rfl rfl (by decide) fl_X8_56 rfl dX8_begin_189 ?_
      refine lv_aload_n hx hb dX8_begin_192 rfl (lv_at hl 0 rfl) ?_
      refine gs_get hC hW in_X8 0 20 rfl rfl (by decide) fl_X8_180 rfl dX8_begin_193 ?_
      refine lv_iload_n hx hb dX8_begin_196 rfl (lv_at hl 3 rfl) ?_
      refine lv_if_ge (tgt := 204) hx hb dX8_begin_197 (by decide) (fun c6 => ?_) (fun c6 => ?_)
      · replace hf := (if_pos c6).symm.trans hf
        refine lv_iload_n hx hb dX8_begin_204 rfl (lv_at hl 1 rfl) ?_
        refine lv_if_eq (tgt := 219) hx hb dX8_begin_205 (by decide) (fun c7 => ?_) (fun c7 => ?_)
        · replace hf := (if_pos c7).symm.trans hf
          refine lv_aload_n hx hb dX8_begin_219 rfl (lv_at hl 0 rfl) ?_
          refine gs_get hC hW in_X8 0 6 rfl rfl (by decide) fl_X8_19 rfl dX8_begin_220 ?_
          refine lv_iload_n hx hb dX8_begin_223 rfl (lv_at hl 3 rfl) ?_
          refine lv_iconst (v := 1) hx hb dX8_begin_224 (by decide) ?_
          refine lv_iadd hx hb dX8_begin_225 ?_
          obtain ⟨v8, h8, hf⟩ := g_bnd hf
          refine gs_iald hC hW 2 h8 rfl dX8_begin_226 ?_
          obtain ⟨s9, h9, hf⟩ := g_bnd hf
          refine gs_iast (ws' := w_X8_begin cI cZ cJ a_t a_t_parameters a_t_first a_t_anew a_t_at a_t_in a_t_back a_t_register a_t_calls a_t_latest a_t_differ a_t_length a_t_newLength a_t_now a_t_table a_t_inputs a_t_met a_t_any a_t_number a_t_outAny a_t_out a_t_output t_code t_own t_count t_tableSize t_given t_known t_news t_depth t_steps t_taken t_shown t_outcome t_parameters t_first t_anew s5 s4 s9 t_register s3 t_latest t_differ) hC hW 6 h9 rfl rfl dX8_begin_227 (fun H locs hW => ?_)
          refine lv_aload_n hx hb dX8_begin_228 rfl (lv_at hl 0 rfl) ?_
          refine lv_dup hx hb dX8_begin_229 rfl ?_
          refine gs_get hC hW in_X8 0 20 rfl rfl (by decide) fl_X8_180 rfl dX8_begin_230 ?_
          refine lv_iconst (v := 1) hx hb dX8_begin_233 (by decide) ?_
          refine lv_iadd hx hb dX8_begin_234 ?_
          refine gs_put (ws' := w_X8_begin cI cZ cJ a_t a_t_parameters a_t_first a_t_anew a_t_at a_t_in a_t_back a_t_register a_t_calls a_t_latest a_t_differ a_t_length a_t_newLength a_t_now a_t_table a_t_inputs a_t_met a_t_any a_t_number a_t_outAny a_t_out a_t_output t_code t_own t_count t_tableSize t_given t_known t_news (t_depth + 1) t_steps t_taken t_shown t_outcome t_parameters t_first t_anew s5 s4 s9 t_register s3 t_latest t_differ) hC hW in_X8 tyX8_ok nmX8 0 20 rfl rfl (by decide) fl_X8_180 rfl rfl rfl (Nat.le_of_ble_eq_true rfl) rfl dX8_begin_235 (fun H locs hW => ?_)
          refine lv_iconst (v := 1) hx hb dX8_begin_238 (by decide) ?_
          obtain rfl := Option.some.inj hf
          exact gs_rz hC hW rfl g_n1 dX8_begin_239
        · replace hf := (if_neg c7).symm.trans hf
          refine lv_aload_n hx hb dX8_begin_208 rfl (lv_at hl 0 rfl) ?_
          refine gs_get hC hW in_X8 0 8 rfl rfl (by decide) fl_X8_25 rfl dX8_begin_209 ?_
          refine lv_iload_n hx hb dX8_begin_212 rfl (lv_at hl 3 rfl) ?_
          refine lv_iconst (v := 1) hx hb dX8_begin_213 (by decide) ?_
          refine lv_iadd hx hb dX8_begin_214 ?_
          obtain ⟨v10, h10, hf⟩ := g_bnd hf
          refine gs_iald hC hW 3 h10 rfl dX8_begin_215 ?_
          refine lv_goto (tgt := 227) hx hb dX8_begin_216 (by decide) ?_
          obtain ⟨s11, h11, hf⟩ := g_bnd hf
          refine gs_iast (ws' := w_X8_begin cI cZ cJ a_t a_t_parameters a_t_first a_t_anew a_t_at a_t_in a_t_back a_t_register a_t_calls a_t_latest a_t_differ a_t_length a_t_newLength a_t_now a_t_table a_t_inputs a_t_met a_t_any a_t_number a_t_outAny a_t_out a_t_output t_code t_own t_count t_tableSize t_given t_known t_news t_depth t_steps t_taken t_shown t_outcome t_parameters t_first t_anew s5 s4 s11 t_register s3 t_latest t_differ) hC hW 6 h11 rfl rfl dX8_begin_227 (fun H locs hW => ?_)
          refine lv_aload_n hx hb dX8_begin_228 rfl (lv_at hl 0 rfl) ?_
          refine lv_dup hx hb dX8_begin_229 rfl ?_
          refine gs_get hC hW in_X8 0 20 rfl rfl (by decide) fl_X8_180 rfl dX8_begin_230 ?_
          refine lv_iconst (v := 1) hx hb dX8_begin_233 (by decide) ?_
          refine lv_iadd hx hb dX8_begin_234 ?_
          refine gs_put (ws' := w_X8_begin cI cZ cJ a_t a_t_parameters a_t_first a_t_anew a_t_at a_t_in a_t_back a_t_register a_t_calls a_t_latest a_t_differ a_t_length a_t_newLength a_t_now a_t_table a_t_inputs a_t_met a_t_any a_t_number a_t_outAny a_t_out a_t_output t_code t_own t_count t_tableSize t_given t_known t_news (t_depth + 1) t_steps t_taken t_shown t_outcome t_parameters t_first t_anew s5 s4 s11 t_register s3 t_latest t_differ) hC hW in_X8 tyX8_ok nmX8 0 20 rfl rfl (by decide) fl_X8_180 rfl rfl rfl (Nat.le_of_ble_eq_true rfl) rfl dX8_begin_235 (fun H locs hW => ?_)
          refine lv_iconst (v := 1) hx hb dX8_begin_238 (by decide) ?_
          obtain rfl := Option.some.inj hf
          exact gs_rz hC hW rfl g_n1 dX8_begin_239
      · replace hf := (if_neg c6).symm.trans hf
        refine lv_iconst (v := 0) hx hb dX8_begin_200 (by decide) ?_
        refine lv_goto (tgt := 227) hx hb dX8_begin_201 (by decide) ?_
        obtain ⟨s12, h12, hf⟩ := g_bnd hf
        refine gs_iast (ws' := w_X8_begin cI cZ cJ a_t a_t_parameters a_t_first a_t_anew a_t_at a_t_in a_t_back a_t_register a_t_calls a_t_latest a_t_differ a_t_length a_t_newLength a_t_now a_t_table a_t_inputs a_t_met a_t_any a_t_number a_t_outAny a_t_out a_t_output t_code t_own t_count t_tableSize t_given t_known t_news t_depth t_steps t_taken t_shown t_outcome t_parameters t_first t_anew s5 s4 s12 t_register s3 t_latest t_differ) hC hW 6 h12 rfl rfl dX8_begin_227 (fun H locs hW => ?_)
        refine lv_aload_n hx hb dX8_begin_228 rfl (lv_at hl 0 rfl) ?_
        refine lv_dup hx hb dX8_begin_229 rfl ?_
        refine gs_get hC hW in_X8 0 20 rfl rfl (by decide) fl_X8_180 rfl dX8_begin_230 ?_
        refine lv_iconst (v := 1) hx hb dX8_begin_233 (by decide) ?_
        refine lv_iadd hx hb dX8_begin_234 ?_
        refine gs_put (ws' := w_X8_begin cI cZ cJ a_t a_t_parameters a_t_first a_t_anew a_t_at a_t_in a_t_back a_t_register a_t_calls a_t_latest a_t_differ a_t_length a_t_newLength a_t_now a_t_table a_t_inputs a_t_met a_t_any a_t_number a_t_outAny a_t_out a_t_output t_code t_own t_count t_tableSize t_given t_known t_news (t_depth + 1) t_steps t_taken t_shown t_outcome t_parameters t_first t_anew s5 s4 s12 t_register s3 t_latest t_differ) hC hW in_X8 tyX8_ok nmX8 0 20 rfl rfl (by decide) fl_X8_180 rfl rfl rfl (Nat.le_of_ble_eq_true rfl) rfl dX8_begin_235 (fun H locs hW => ?_)
        refine lv_iconst (v := 1) hx hb dX8_begin_238 (by decide) ?_
        obtain rfl := Option.some.inj hf
        exact gs_rz hC hW rfl g_n1 dX8_begin_239
    · replace hf := (if_neg c1).symm.trans hf
      refine lv_aload_n hx hb dX8_begin_115 rfl (lv_at hl 0 rfl) ?_
      refine lv_iload_n hx hb dX8_begin_116 rfl (lv_at hl 2 rfl) ?_
      refine lv_iload hx hb dX8_begin_117 (lv_at hl 4 rfl) ?_
      refine lv_iload hx hb dX8_begin_119 (lv_at hl 4 rfl) ?_
      refine lv_aload_n hx hb dX8_begin_121 rfl (lv_at hl 0 rfl) ?_
      refine gs_get hC hW in_X8 0 3 rfl rfl (by decide) fl_X8_7 rfl dX8_begin_122 ?_
      refine lv_iload_n hx hb dX8_begin_125 rfl (lv_at hl 2 rfl) ?_
      obtain ⟨v13, h13, hf⟩ := g_bnd hf
      refine gs_iald hC hW 1 h13 rfl dX8_begin_126 ?_
      refine lv_icmp_ge (tgt := 148) hx hb dX8_begin_127 (by decide) (fun c14 => ?_) (fun c14 => ?_)
      · replace hf := (if_pos c14).symm.trans hf
        refine lv_iconst (v := 0) hx hb dX8_begin_148 (by decide) ?_
        obtain ⟨o15, h15, hf⟩ := g_bnd hf
        refine gs_callVv (ws' := w_X8_begin cI cZ cJ a_t a_t_parameters a_t_first a_t_anew a_t_at a_t_in a_t_back a_t_register a_t_calls a_t_latest a_t_differ a_t_length a_t_newLength a_t_now a_t_table a_t_inputs a_t_met a_t_any a_t_number a_t_outAny a_t_out a_t_output t_code t_own t_count t_tableSize t_given t_known t_news t_depth t_steps t_taken t_shown t_outcome t_parameters t_first t_anew t_at t_in t_back t_register t_calls o15.1 o15.2) hC hW (k_X8_note l tA dC dI cI cZ cJ a_t a_t_calls a_t_latest a_t_differ a_t_parameters a_t_length a_t_newLength a_t_first a_t_now a_t_anew a_t_table a_t_inputs a_t_met a_t_any a_t_number a_t_outAny a_t_out a_t_at a_t_in a_t_back a_t_register a_t_output x2 x4 0 t_code t_own t_count t_tableSize t_given t_known t_news t_depth t_steps t_taken t_shown t_outcome t_calls t_latest t_differ _ h15) yk_X8_note lk_X8_186 iv_X8_note ⟨rfl, rfl⟩ ⟨Nat.le_of_ble_eq_true rfl, Nat.le_of_ble_eq_true rfl⟩ hl.1 0 rfl rfl [0, 8, 9, 10] [1, 2, 3, 4, 5, 6, 7] [7, 0, 1, 2, 3, 4, 5, 6, 8, 9, 10] rfl rfl rfl rfl (by decide) rfl rfl rfl rfl (Nat.le_of_ble_eq_true rfl) dX8_begin_149 ⟨Nat.zero_le _, Nat.zero_le _⟩ (fun H locs hW => ?_)
        refine lv_iinc (v := x4 + 1) (lv' := [(4, .int (x4 + 1)), (0, .ref a_t), (1, .int x1), (2, .int x2), (3, .int x3)]) hx hb dX8_begin_152 hl (k := 4) rfl rfl (by decide) rfl (fun ls hl => ?_)
        refine lv_goto (tgt := 109) hx hb dX8_begin_155 (by decide) ?_
        exact ih _ _ _ _ _ _ _ _ _ _ hf _ _ _ hW (lv_sub hl [1, 2, 3, 4, 0] rfl)
      · replace hf := (if_neg c14).symm.trans hf
        refine lv_aload_n hx hb dX8_begin_130 rfl (lv_at hl 0 rfl) ?_
        refine gs_get hC hW in_X8 0 27 rfl rfl (by decide) fl_X8_59 rfl dX8_begin_131 ?_
        refine lv_bipush (v := 6) hx hb dX8_begin_134 (by decide) ?_
        refine lv_aload_n hx hb dX8_begin_136 rfl (lv_at hl 0 rfl) ?_
        refine gs_get hC hW in_X8 0 20 rfl rfl (by decide) fl_X8_180 rfl dX8_begin_137 ?_
        refine lv_imul hx hb dX8_begin_140 ?_
        refine lv_iload hx hb dX8_begin_141 (lv_at hl 4 rfl) ?_
        refine lv_iadd hx hb dX8_begin_143 ?_
        obtain ⟨v16, h16, hf⟩ := g_bnd hf
        refine gs_iald hC hW 7 h16 rfl dX8_begin_144 ?_
        refine lv_goto (tgt := 149) hx hb dX8_begin_145 (by decide) ?_
        obtain ⟨o17, h17, hf⟩ := g_bnd hf
        refine gs_callVv (ws' := w_X8_begin cI cZ cJ a_t a_t_parameters a_t_first a_t_anew a_t_at a_t_in a_t_back a_t_register a_t_calls a_t_latest a_t_differ a_t_length a_t_newLength a_t_now a_t_table a_t_inputs a_t_met a_t_any a_t_number a_t_outAny a_t_out a_t_output t_code t_own t_count t_tableSize t_given t_known t_news t_depth t_steps t_taken t_shown t_outcome t_parameters t_first t_anew t_at t_in t_back t_register t_calls o17.1 o17.2) hC hW (k_X8_note l tA dC dI cI cZ cJ a_t a_t_calls a_t_latest a_t_differ a_t_parameters a_t_length a_t_newLength a_t_first a_t_now a_t_anew a_t_table a_t_inputs a_t_met a_t_any a_t_number a_t_outAny a_t_out a_t_at a_t_in a_t_back a_t_register a_t_output x2 x4 v16 t_code t_own t_count t_tableSize t_given t_known t_news t_depth t_steps t_taken t_shown t_outcome t_calls t_latest t_differ _ h17) yk_X8_note lk_X8_186 iv_X8_note ⟨rfl, rfl⟩ ⟨Nat.le_of_ble_eq_true rfl, Nat.le_of_ble_eq_true rfl⟩ hl.1 0 rfl rfl [0, 8, 9, 10] [1, 2, 3, 4, 5, 6, 7] [7, 0, 1, 2, 3, 4, 5, 6, 8, 9, 10] rfl rfl rfl rfl (by decide) rfl rfl rfl rfl (Nat.le_of_ble_eq_true rfl) dX8_begin_149 ⟨Nat.zero_le _, Nat.zero_le _⟩ (fun H locs hW => ?_)
        refine lv_iinc (v := x4 + 1) (lv' := [(4, .int (x4 + 1)), (0, .ref a_t), (1, .int x1), (2, .int x2), (3, .int x3)]) hx hb dX8_begin_152 hl (k := 4) rfl rfl (by decide) rfl (fun ls hl => ?_)
        refine lv_goto (tgt := 109) hx hb dX8_begin_155 (by decide) ?_
        exact ih _ _ _ _ _ _ _ _ _ _ hf _ _ _ hW (lv_sub hl [1, 2, 3, 4, 0] rfl)
def f_X8_begin_41 (N : Nat) (k14 : Int32 → Int32 → (Nat → Int32) → (Nat → Int32) → (Nat → Int32) → (Nat → Int32) → (Nat → Int32) → (Nat → Int32) → (Nat → Int32) → Option (Int32 × Int32 × (Nat → Int32) × (Nat → Int32) × (Nat → Int32) × (Nat → Int32) × (Nat → Int32) × (Nat → Int32) × (Nat → Int32))) (x1 : Int32) (x2 : Int32) (x3 : Int32) (t_parameters : Nat → Int32) (t_first : Nat → Int32) (t_anew : Nat → Int32) (x4 : Int32) (z0 : Int32) (t_depth : Int32) (t_at : Nat → Int32) (t_in : Nat → Int32) (t_back : Nat → Int32) (t_register : Nat → Int32) (t_calls : Nat → Int32) (t_latest : Nat → Int32) (t_differ : Nat → Int32) : Option (Int32 × Int32 × (Nat → Int32) × (Nat → Int32) × (Nat → Int32) × (Nat → Int32) × (Nat → Int32) × (Nat → Int32) × (Nat → Int32)) := if z0 = 0 then (g_wr 66 t_register ((6 * t_depth) + x4) 0).bind (fun s19 => k14 (x4 + 1) t_depth t_at t_in t_back s19 t_calls t_latest t_differ) else if x1 = 0 then (g_rd 576 t_first ((x3 + 3) + x4)).bind (fun v21 => (f_X8_valueOf v21 t_depth t_register).bind (fun o22 => (g_wr 66 t_register ((6 * t_depth) + x4) o22).bind (fun s23 => k14 (x4 + 1) t_depth t_at t_in t_back s23 t_calls t_latest t_differ))) else (g_rd 1152 t_anew ((x3 + 3) + x4)).bind (fun v24 => (f_X8_valueOf v24 t_depth t_register).bind (fun o25 => (g_wr 66 t_register ((6 * t_depth) + x4) o25).bind (fun s26 => k14 (x4 + 1) t_depth t_at t_in t_back s26 t_calls t_latest t_differ)))
set_option maxHeartbeats 4000000 in
set_option maxRecDepth 100000 in
theorem b_X8_begin_41 {p : Program} {l : Launch} {e : Env} {s : State} {m : MethodId} {args : Array Value} {below : List Frame} {meth : Method} {c : Code} {tA : Nat} {dC : Nat → ClassId} {dI : Nat → Nat → Nat} {cI cZ cJ : ClassId} {A : Nat → Prop} {a_t : Nat} {a_t_parameters : Nat} {a_t_first : Nat} {a_t_anew : Nat} {a_t_at : Nat} {a_t_in : Nat} {a_t_back : Nat} {a_t_register : Nat} {a_t_calls : Nat} {a_t_latest : Nat} {a_t_differ : Nat} {a_t_length : Nat} {a_t_newLength : Nat} {a_t_now : Nat} {a_t_table : Nat} {a_t_inputs : Nat} {a_t_met : Nat} {a_t_any : Nat} {a_t_number : Nat} {a_t_outAny : Nat} {a_t_out : Nat} {a_t_output : Nat} {x1 : Int32} {x2 : Int32} {x3 : Int32} {t_parameters : Nat → Int32} {t_first : Nat → Int32} {t_anew : Nat → Int32} {t_code : Int32} {t_own : Int32} {t_count : Int32} {t_tableSize : Int32} {t_given : Int32} {t_known : Int32} {t_news : Int32} {t_steps : Int32} {t_taken : Int32} {t_shown : Int32} {t_outcome : Int32} {N : Nat} {k14 : Int32 → Int32 → (Nat → Int32) → (Nat → Int32) → (Nat → Int32) → (Nat → Int32) → (Nat → Int32) → (Nat → Int32) → (Nat → Int32) → Option (Int32 × Int32 × (Nat → Int32) × (Nat → Int32) × (Nat → Int32) × (Nat → Int32) × (Nat → Int32) × (Nat → Int32) × (Nat → Int32))} {x4 : Int32} {z0 : Int32} {t_depth : Int32} {t_at : Nat → Int32} {t_in : Nat → Int32} {t_back : Nat → Int32} {t_register : Nat → Int32} {t_calls : Nat → Int32} {t_latest : Nat → Int32} {t_differ : Nat → Int32} {out : Int32 × Int32 × (Nat → Int32) × (Nat → Int32) × (Nat → Int32) × (Nat → Int32) × (Nat → Int32) × (Nat → Int32) × (Nat → Int32)} (hC : g_C p s m meth c args cX8_begin 6 (some .boolean) RX8) (hk14 : ∀ (x4 : Int32) (t_depth : Int32) (t_at : Nat → Int32) (t_in : Nat → Int32) (t_back : Nat → Int32) (t_register : Nat → Int32) (t_calls : Nat → Int32) (t_latest : Nat → Int32) (t_differ : Nat → Int32) (out : Int32 × Int32 × (Nat → Int32) × (Nat → Int32) × (Nat → Int32) × (Nat → Int32) × (Nat → Int32) × (Nat → Int32) × (Nat → Int32)), k14 x4 t_depth t_at t_in t_back t_register t_calls t_latest t_differ = some out → ∀ (H : Heap) (locs : List Loc) (ls : Array Slot), g_W tA dC dI cI cZ cJ A s H locs (w_X8_begin cI cZ cJ a_t a_t_parameters a_t_first a_t_anew a_t_at a_t_in a_t_back a_t_register a_t_calls a_t_latest a_t_differ a_t_length a_t_newLength a_t_now a_t_table a_t_inputs a_t_met a_t_any a_t_number a_t_outAny a_t_out a_t_output t_code t_own t_count t_tableSize t_given t_known t_news t_depth t_steps t_taken t_shown t_outcome t_parameters t_first t_anew t_at t_in t_back t_register t_calls t_latest t_differ) → lv_has ls 6 [(0, .ref a_t), (1, .int x1), (2, .int x2), (3, .int x3), (4, .int x4)] → W p l e r_X8_begin s m args below meth c H locs 0 0 (MQ below (g_Qi dC dI cI cZ cJ A (w_X8_begin cI cZ cJ a_t a_t_parameters a_t_first a_t_anew a_t_at a_t_in a_t_back a_t_register a_t_calls a_t_latest a_t_differ a_t_length a_t_newLength a_t_now a_t_table a_t_inputs a_t_met a_t_any a_t_number a_t_outAny a_t_out a_t_output t_code t_own t_count t_tableSize t_given t_known t_news out.2.1 t_steps t_taken t_shown t_outcome t_parameters t_first t_anew out.2.2.1 out.2.2.2.1 out.2.2.2.2.1 out.2.2.2.2.2.1 out.2.2.2.2.2.2.1 out.2.2.2.2.2.2.2.1 out.2.2.2.2.2.2.2.2) out.1) args s 0 0 A) (F0 m 14 ls [])) (hf : f_X8_begin_41 N k14 x1 x2 x3 t_parameters t_first t_anew x4 z0 t_depth t_at t_in t_back t_register t_calls t_latest t_differ = some out) {H : Heap} {locs : List Loc} {ls : Array Slot} (hW : g_W tA dC dI cI cZ cJ A s H locs (w_X8_begin cI cZ cJ a_t a_t_parameters a_t_first a_t_anew a_t_at a_t_in a_t_back a_t_register a_t_calls a_t_latest a_t_differ a_t_length a_t_newLength a_t_now a_t_table a_t_inputs a_t_met a_t_any a_t_number a_t_outAny a_t_out a_t_output t_code t_own t_count t_tableSize t_given t_known t_news t_depth t_steps t_taken t_shown t_outcome t_parameters t_first t_anew t_at t_in t_back t_register t_calls t_latest t_differ)) (hl : lv_has ls 6 [(0, .ref a_t), (1, .int x1), (2, .int x2), (3, .int x3), (4, .int x4)]) : W p l e r_X8_begin s m args below meth c H locs 0 0 (MQ below (g_Qi dC dI cI cZ cJ A (w_X8_begin cI cZ cJ a_t a_t_parameters a_t_first a_t_anew a_t_at a_t_in a_t_back a_t_register a_t_calls a_t_latest a_t_differ a_t_length a_t_newLength a_t_now a_t_table a_t_inputs a_t_met a_t_any a_t_number a_t_outAny a_t_out a_t_output t_code t_own t_count t_tableSize t_given t_known t_news out.2.1 t_steps t_taken t_shown t_outcome t_parameters t_first t_anew out.2.2.1 out.2.2.2.1 out.2.2.2.2.1 out.2.2.2.2.2.1 out.2.2.2.2.2.2.1 out.2.2.2.2.2.2.2.1 out.2.2.2.2.2.2.2.2) out.1) args s 0 0 A) (F0 m 41 ls [.int z0]) := by
  have hx := hC.1
  have hb := hC.2.1
  have hown := hC.2.2.2.2.1
  have hts := hC.2.2.2.2.2.1
  unfold f_X8_begin_41 at hf
  refine lv_istore (lv' := [(5, .int z0), (0, .ref a_t), (1, .int x1), (2, .int x2), (3, .int x3), (4, .int x4)]) hx hb dX8_begin_41 hl (by decide) rfl (fun ls hl => ?_)
  refine lv_aload_n hx hb dX8_begin_43 rfl (lv_at hl 1 rfl) ?_
  refine gs_get hC hW in_X8 0 27 rfl rfl (by decide) fl_X8_59 rfl dX8_begin_44 ?_
  refine lv_bipush (v := 6) hx hb dX8_begin_47 (by decide) ?_
  refine lv_aload_n hx hb dX8_begin_49 rfl (lv_at hl 1 rfl) ?_
  refine gs_get hC hW in_X8 0 20 rfl rfl (by decide) fl_X8_180 rfl dX8_begin_50 ?_
  refine lv_imul hx hb dX8_begin_53 ?_
  refine lv_iload hx hb dX8_begin_54 (lv_at hl 5 rfl) ?_
  refine lv_iadd hx hb dX8_begin_56 ?_
  refine lv_iload hx hb dX8_begin_57 (lv_at hl 0 rfl) ?_
  refine lv_if_eq (tgt := 98) hx hb dX8_begin_59 (by decide) (fun c18 => ?_) (fun c18 => ?_)
  · replace hf := (if_pos c18).symm.trans hf
    refine lv_iconst (v := 0) hx hb dX8_begin_98 (by decide) ?_
    obtain ⟨s19, h19, hf⟩ := g_bnd hf
    refine gs_iast (ws' := w_X8_begin cI cZ cJ a_t a_t_parameters a_t_first a_t_anew a_t_at a_t_in a_t_back a_t_register a_t_calls a_t_latest a_t_differ a_t_length a_t_newLength a_t_now a_t_table a_t_inputs a_t_met a_t_any a_t_number a_t_outAny a_t_out a_t_output t_code t_own t_count t_tableSize t_given t_known t_news t_depth t_steps t_taken t_shown t_outcome t_parameters t_first t_anew t_at t_in t_back s19 t_calls t_latest t_differ) hC hW 7 h19 rfl rfl dX8_begin_99 (fun H locs hW => ?_)
    refine lv_iinc (v := x4 + 1) (lv' := [(4, .int (x4 + 1)), (5, .int z0), (0, .ref a_t), (1, .int x1), (2, .int x2), (3, .int x3)]) hx hb dX8_begin_100 hl (k := 5) rfl rfl (by decide) rfl (fun ls hl => ?_)
    refine lv_goto (tgt := 14) hx hb dX8_begin_103 (by decide) ?_
    exact hk14 _ _ _ _ _ _ _ _ _ _ hf _ _ _ hW (lv_sub hl [2, 3, 4, 5, 0] rfl)
  · replace hf := (if_neg c18).symm.trans hf
    refine lv_aload_n hx hb dX8_begin_62 rfl (lv_at hl 1 rfl) ?_
    refine lv_iload_n hx hb dX8_begin_63 rfl (lv_at hl 2 rfl) ?_
    refine lv_if_eq (tgt := 81) hx hb dX8_begin_64 (by decide) (fun c20 => ?_) (fun c20 => ?_)
    · replace hf := (if_pos c20).symm.trans hf
      refine lv_aload_n hx hb dX8_begin_81 rfl (lv_at hl 1 rfl) ?_
      refine gs_get hC hW in_X8 0 6 rfl rfl (by decide) fl_X8_19 rfl dX8_begin_82 ?_
      refine lv_iload_n hx hb dX8_begin_85 rfl (lv_at hl 4 rfl) ?_
      refine lv_iconst (v := 3) hx hb dX8_begin_86 (by decide) ?_
      refine lv_iadd hx hb dX8_begin_87 ?_
      refine lv_iload hx hb dX8_begin_88 (lv_at hl 5 rfl) ?_
      refine lv_iadd hx hb dX8_begin_90 ?_
      obtain ⟨v21, h21, hf⟩ := g_bnd hf
      refine gs_iald hC hW 2 h21 rfl dX8_begin_91 ?_
      obtain ⟨o22, h22, hf⟩ := g_bnd hf
      refine gs_callVi (ws' := w_X8_begin cI cZ cJ a_t a_t_parameters a_t_first a_t_anew a_t_at a_t_in a_t_back a_t_register a_t_calls a_t_latest a_t_differ a_t_length a_t_newLength a_t_now a_t_table a_t_inputs a_t_met a_t_any a_t_number a_t_outAny a_t_out a_t_output t_code t_own t_count t_tableSize t_given t_known t_news t_depth t_steps t_taken t_shown t_outcome t_parameters t_first t_anew t_at t_in t_back t_register t_calls t_latest t_differ) hC hW (k_X8_valueOf l tA dC dI cI cZ cJ a_t a_t_register a_t_parameters a_t_length a_t_newLength a_t_first a_t_now a_t_anew a_t_table a_t_inputs a_t_met a_t_any a_t_number a_t_outAny a_t_out a_t_at a_t_in a_t_back a_t_output a_t_calls a_t_latest a_t_differ v21 t_code t_own t_count t_tableSize t_given t_known t_news t_depth t_steps t_taken t_shown t_outcome t_register _ h22) yk_X8_valueOf lk_X8_183 iv_X8_valueOf ⟨rfl, rfl⟩ ⟨Nat.le_of_ble_eq_true rfl, Nat.le_of_ble_eq_true rfl⟩ hl.1 0 rfl rfl [0, 7] [1, 2, 3, 4, 5, 6, 8, 9, 10] [9, 0, 1, 2, 3, 4, 5, 10, 6, 7, 8] rfl rfl rfl rfl (by decide) rfl rfl rfl rfl (Nat.le_of_ble_eq_true rfl) dX8_begin_92 ⟨Nat.zero_le _, Nat.zero_le _⟩ (fun H locs hW => ?_)
      refine lv_goto (tgt := 99) hx hb dX8_begin_95 (by decide) ?_
      obtain ⟨s23, h23, hf⟩ := g_bnd hf
      refine gs_iast (ws' := w_X8_begin cI cZ cJ a_t a_t_parameters a_t_first a_t_anew a_t_at a_t_in a_t_back a_t_register a_t_calls a_t_latest a_t_differ a_t_length a_t_newLength a_t_now a_t_table a_t_inputs a_t_met a_t_any a_t_number a_t_outAny a_t_out a_t_output t_code t_own t_count t_tableSize t_given t_known t_news t_depth t_steps t_taken t_shown t_outcome t_parameters t_first t_anew t_at t_in t_back s23 t_calls t_latest t_differ) hC hW 7 h23 rfl rfl dX8_begin_99 (fun H locs hW => ?_)
      refine lv_iinc (v := x4 + 1) (lv' := [(4, .int (x4 + 1)), (5, .int z0), (0, .ref a_t), (1, .int x1), (2, .int x2), (3, .int x3)]) hx hb dX8_begin_100 hl (k := 5) rfl rfl (by decide) rfl (fun ls hl => ?_)
      refine lv_goto (tgt := 14) hx hb dX8_begin_103 (by decide) ?_
      exact hk14 _ _ _ _ _ _ _ _ _ _ hf _ _ _ hW (lv_sub hl [2, 3, 4, 5, 0] rfl)
    · replace hf := (if_neg c20).symm.trans hf
      refine lv_aload_n hx hb dX8_begin_67 rfl (lv_at hl 1 rfl) ?_
      refine gs_get hC hW in_X8 0 8 rfl rfl (by decide) fl_X8_25 rfl dX8_begin_68 ?_
      refine lv_iload_n hx hb dX8_begin_71 rfl (lv_at hl 4 rfl) ?_
      refine lv_iconst (v := 3) hx hb dX8_begin_72 (by decide) ?_
      refine lv_iadd hx hb dX8_begin_73 ?_
      refine lv_iload hx hb dX8_begin_74 (lv_at hl 5 rfl) ?_
      refine lv_iadd hx hb dX8_begin_76 ?_
      obtain ⟨v24, h24, hf⟩ := g_bnd hf
      refine gs_iald hC hW 3 h24 rfl dX8_begin_77 ?_
      refine lv_goto (tgt := 92) hx hb dX8_begin_78 (by decide) ?_
      obtain ⟨o25, h25, hf⟩ := g_bnd hf
      refine gs_callVi (ws' := w_X8_begin cI cZ cJ a_t a_t_parameters a_t_first a_t_anew a_t_at a_t_in a_t_back a_t_register a_t_calls a_t_latest a_t_differ a_t_length a_t_newLength a_t_now a_t_table a_t_inputs a_t_met a_t_any a_t_number a_t_outAny a_t_out a_t_output t_code t_own t_count t_tableSize t_given t_known t_news t_depth t_steps t_taken t_shown t_outcome t_parameters t_first t_anew t_at t_in t_back t_register t_calls t_latest t_differ) hC hW (k_X8_valueOf l tA dC dI cI cZ cJ a_t a_t_register a_t_parameters a_t_length a_t_newLength a_t_first a_t_now a_t_anew a_t_table a_t_inputs a_t_met a_t_any a_t_number a_t_outAny a_t_out a_t_at a_t_in a_t_back a_t_output a_t_calls a_t_latest a_t_differ v24 t_code t_own t_count t_tableSize t_given t_known t_news t_depth t_steps t_taken t_shown t_outcome t_register _ h25) yk_X8_valueOf lk_X8_183 iv_X8_valueOf ⟨rfl, rfl⟩ ⟨Nat.le_of_ble_eq_true rfl, Nat.le_of_ble_eq_true rfl⟩ hl.1 0 rfl rfl [0, 7] [1, 2, 3, 4, 5, 6, 8, 9, 10] [9, 0, 1, 2, 3, 4, 5, 10, 6, 7, 8] rfl rfl rfl rfl (by decide) rfl rfl rfl rfl (Nat.le_of_ble_eq_true rfl) dX8_begin_92 ⟨Nat.zero_le _, Nat.zero_le _⟩ (fun H locs hW => ?_)
      refine lv_goto (tgt := 99) hx hb dX8_begin_95 (by decide) ?_
      obtain ⟨s26, h26, hf⟩ := g_bnd hf
      refine gs_iast (ws' := w_X8_begin cI cZ cJ a_t a_t_parameters a_t_first a_t_anew a_t_at a_t_in a_t_back a_t_register a_t_calls a_t_latest a_t_differ a_t_length a_t_newLength a_t_now a_t_table a_t_inputs a_t_met a_t_any a_t_number a_t_outAny a_t_out a_t_output t_code t_own t_count t_tableSize t_given t_known t_news t_depth t_steps t_taken t_shown t_outcome t_parameters t_first t_anew t_at t_in t_back s26 t_calls t_latest t_differ) hC hW 7 h26 rfl rfl dX8_begin_99 (fun H locs hW => ?_)
      refine lv_iinc (v := x4 + 1) (lv' := [(4, .int (x4 + 1)), (5, .int z0), (0, .ref a_t), (1, .int x1), (2, .int x2), (3, .int x3)]) hx hb dX8_begin_100 hl (k := 5) rfl rfl (by decide) rfl (fun ls hl => ?_)
      refine lv_goto (tgt := 14) hx hb dX8_begin_103 (by decide) ?_
      exact hk14 _ _ _ _ _ _ _ _ _ _ hf _ _ _ hW (lv_sub hl [2, 3, 4, 5, 0] rfl)
def f_X8_begin_14 (N : Nat) (x1 : Int32) (x2 : Int32) (x3 : Int32) (t_parameters : Nat → Int32) (t_first : Nat → Int32) (t_anew : Nat → Int32) : Nat → Int32 → Int32 → (Nat → Int32) → (Nat → Int32) → (Nat → Int32) → (Nat → Int32) → (Nat → Int32) → (Nat → Int32) → (Nat → Int32) → Option (Int32 × Int32 × (Nat → Int32) × (Nat → Int32) × (Nat → Int32) × (Nat → Int32) × (Nat → Int32) × (Nat → Int32) × (Nat → Int32))
  | 0, _, _, _, _, _, _, _, _, _ => none
  | n + 1, x4, t_depth, t_at, t_in, t_back, t_register, t_calls, t_latest, t_differ => if 6 ≤ x4 then f_X8_begin_109 N x1 x2 x3 t_parameters t_first t_anew N 0 t_depth t_at t_in t_back t_register t_calls t_latest t_differ else if x3 < 0 then f_X8_begin_41 N (f_X8_begin_14 N x1 x2 x3 t_parameters t_first t_anew n) x1 x2 x3 t_parameters t_first t_anew x4 0 t_depth t_at t_in t_back t_register t_calls t_latest t_differ else (g_rd 12 t_parameters x2).bind (fun v29 => if v29 ≤ x4 then f_X8_begin_41 N (f_X8_begin_14 N x1 x2 x3 t_parameters t_first t_anew n) x1 x2 x3 t_parameters t_first t_anew x4 0 t_depth t_at t_in t_back t_register t_calls t_latest t_differ else f_X8_begin_41 N (f_X8_begin_14 N x1 x2 x3 t_parameters t_first t_anew n) x1 x2 x3 t_parameters t_first t_anew x4 1 t_depth t_at t_in t_back t_register t_calls t_latest t_differ)
set_option maxHeartbeats 4000000 in
set_option maxRecDepth 100000 in
theorem b_X8_begin_14 {p : Program} {l : Launch} {e : Env} {s : State} {m : MethodId} {args : Array Value} {below : List Frame} {meth : Method} {c : Code} {tA : Nat} {dC : Nat → ClassId} {dI : Nat → Nat → Nat} {cI cZ cJ : ClassId} {A : Nat → Prop} {a_t : Nat} {a_t_parameters : Nat} {a_t_first : Nat} {a_t_anew : Nat} {a_t_at : Nat} {a_t_in : Nat} {a_t_back : Nat} {a_t_register : Nat} {a_t_calls : Nat} {a_t_latest : Nat} {a_t_differ : Nat} {a_t_length : Nat} {a_t_newLength : Nat} {a_t_now : Nat} {a_t_table : Nat} {a_t_inputs : Nat} {a_t_met : Nat} {a_t_any : Nat} {a_t_number : Nat} {a_t_outAny : Nat} {a_t_out : Nat} {a_t_output : Nat} {x1 : Int32} {x2 : Int32} {x3 : Int32} {t_parameters : Nat → Int32} {t_first : Nat → Int32} {t_anew : Nat → Int32} {t_code : Int32} {t_own : Int32} {t_count : Int32} {t_tableSize : Int32} {t_given : Int32} {t_known : Int32} {t_news : Int32} {t_steps : Int32} {t_taken : Int32} {t_shown : Int32} {t_outcome : Int32} {N : Nat} (hC : g_C p s m meth c args cX8_begin 6 (some .boolean) RX8) :
    ∀ (n : Nat) (x4 : Int32) (t_depth : Int32) (t_at : Nat → Int32) (t_in : Nat → Int32) (t_back : Nat → Int32) (t_register : Nat → Int32) (t_calls : Nat → Int32) (t_latest : Nat → Int32) (t_differ : Nat → Int32) (out : Int32 × Int32 × (Nat → Int32) × (Nat → Int32) × (Nat → Int32) × (Nat → Int32) × (Nat → Int32) × (Nat → Int32) × (Nat → Int32)), f_X8_begin_14 N x1 x2 x3 t_parameters t_first t_anew n x4 t_depth t_at t_in t_back t_register t_calls t_latest t_differ = some out → ∀ (H : Heap) (locs : List Loc) (ls : Array Slot), g_W tA dC dI cI cZ cJ A s H locs (w_X8_begin cI cZ cJ a_t a_t_parameters a_t_first a_t_anew a_t_at a_t_in a_t_back a_t_register a_t_calls a_t_latest a_t_differ a_t_length a_t_newLength a_t_now a_t_table a_t_inputs a_t_met a_t_any a_t_number a_t_outAny a_t_out a_t_output t_code t_own t_count t_tableSize t_given t_known t_news t_depth t_steps t_taken t_shown t_outcome t_parameters t_first t_anew t_at t_in t_back t_register t_calls t_latest t_differ) → lv_has ls 6 [(0, .ref a_t), (1, .int x1), (2, .int x2), (3, .int x3), (4, .int x4)] → W p l e r_X8_begin s m args below meth c H locs 0 0 (MQ below (g_Qi dC dI cI cZ cJ A (w_X8_begin cI cZ cJ a_t a_t_parameters a_t_first a_t_anew a_t_at a_t_in a_t_back a_t_register a_t_calls a_t_latest a_t_differ a_t_length a_t_newLength a_t_now a_t_table a_t_inputs a_t_met a_t_any a_t_number a_t_outAny a_t_out a_t_output t_code t_own t_count t_tableSize t_given t_known t_news out.2.1 t_steps t_taken t_shown t_outcome t_parameters t_first t_anew out.2.2.1 out.2.2.2.1 out.2.2.2.2.1 out.2.2.2.2.2.1 out.2.2.2.2.2.2.1 out.2.2.2.2.2.2.2.1 out.2.2.2.2.2.2.2.2) out.1) args s 0 0 A) (F0 m 14 ls []) := by
  have hx := hC.1
  have hb := hC.2.1
  have hown := hC.2.2.2.2.1
  have hts := hC.2.2.2.2.2.1
  intro n
  induction n with
  | zero =>
    intro x4 t_depth t_at t_in t_back t_register t_calls t_latest t_differ out hf
    exact g_no hf
  | succ n ih =>
    intro x4 t_depth t_at t_in t_back t_register t_calls t_latest t_differ out hf H locs ls hW hl
    refine lv_iload hx hb dX8_begin_14 (lv_at hl 4 rfl) ?_
    refine lv_bipush (v := 6) hx hb dX8_begin_16 (by decide) ?_
    refine lv_icmp_ge (tgt := 106) hx hb dX8_begin_18 (by decide) (fun c27 => ?_) (fun c27 => ?_)
    · replace hf := (if_pos c27).symm.trans hf
      refine lv_iconst (v := 0) hx hb dX8_begin_106 (by decide) ?_
      refine lv_istore (lv' := [(4, .int 0), (0, .ref a_t), (1, .int x1), (2, .int x2), (3, .int x3)]) hx hb dX8_begin_107 hl (by decide) rfl (fun ls hl => ?_)
      exact b_X8_begin_109 hC N _ _ _ _ _ _ _ _ _ _ hf _ _ _ hW (lv_sub hl [1, 2, 3, 4, 0] rfl)
    · replace hf := (if_neg c27).symm.trans hf
      refine lv_iload_n hx hb dX8_begin_21 rfl (lv_at hl 3 rfl) ?_
      refine lv_if_lt (tgt := 40) hx hb dX8_begin_22 (by decide) (fun c28 => ?_) (fun c28 => ?_)
      · replace hf := (if_pos c28).symm.trans hf
        refine lv_iconst (v := 0) hx hb dX8_begin_40 (by decide) ?_
        exact b_X8_begin_41 hC ih hf hW (lv_sub hl [0, 1, 2, 3, 4] rfl)
      · replace hf := (if_neg c28).symm.trans hf
        refine lv_iload hx hb dX8_begin_25 (lv_at hl 4 rfl) ?_
        refine lv_aload_n hx hb dX8_begin_27 rfl (lv_at hl 0 rfl) ?_
        refine gs_get hC hW in_X8 0 3 rfl rfl (by decide) fl_X8_7 rfl dX8_begin_28 ?_
        refine lv_iload_n hx hb dX8_begin_31 rfl (lv_at hl 2 rfl) ?_
        obtain ⟨v29, h29, hf⟩ := g_bnd hf
        refine gs_iald hC hW 1 h29 rfl dX8_begin_32 ?_
        refine lv_icmp_ge (tgt := 40) hx hb dX8_begin_33 (by decide) (fun c30 => ?_) (fun c30 => ?_)
        · replace hf := (if_pos c30).symm.trans hf
          refine lv_iconst (v := 0) hx hb dX8_begin_40 (by decide) ?_
          exact b_X8_begin_41 hC ih hf hW (lv_sub hl [0, 1, 2, 3, 4] rfl)
        · replace hf := (if_neg c30).symm.trans hf
          refine lv_iconst (v := 1) hx hb dX8_begin_36 (by decide) ?_
          refine lv_goto (tgt := 41) hx hb dX8_begin_37 (by decide) ?_
          exact b_X8_begin_41 hC ih hf hW (lv_sub hl [0, 1, 2, 3, 4] rfl)
def f_X8_begin (N : Nat) (x1 : Int32) (x2 : Int32) (x3 : Int32) (t_depth : Int32) (t_parameters : Nat → Int32) (t_first : Nat → Int32) (t_anew : Nat → Int32) (t_at : Nat → Int32) (t_in : Nat → Int32) (t_back : Nat → Int32) (t_register : Nat → Int32) (t_calls : Nat → Int32) (t_latest : Nat → Int32) (t_differ : Nat → Int32) : Option (Int32 × Int32 × (Nat → Int32) × (Nat → Int32) × (Nat → Int32) × (Nat → Int32) × (Nat → Int32) × (Nat → Int32) × (Nat → Int32)) := if t_depth = 11 then some (0, t_depth, t_at, t_in, t_back, t_register, t_calls, t_latest, t_differ) else f_X8_begin_14 N x1 x2 x3 t_parameters t_first t_anew N 0 t_depth t_at t_in t_back t_register t_calls t_latest t_differ
set_option maxHeartbeats 4000000 in
set_option maxRecDepth 100000 in
theorem k_X8_begin (l : Launch) (tA : Nat) (dC : Nat → ClassId) (dI : Nat → Nat → Nat) (cI cZ cJ : ClassId) (a_t : Nat) (a_t_parameters : Nat) (a_t_first : Nat) (a_t_anew : Nat) (a_t_at : Nat) (a_t_in : Nat) (a_t_back : Nat) (a_t_register : Nat) (a_t_calls : Nat) (a_t_latest : Nat) (a_t_differ : Nat) (a_t_length : Nat) (a_t_newLength : Nat) (a_t_now : Nat) (a_t_table : Nat) (a_t_inputs : Nat) (a_t_met : Nat) (a_t_any : Nat) (a_t_number : Nat) (a_t_outAny : Nat) (a_t_out : Nat) (a_t_output : Nat) (N : Nat) (x1 : Int32) (x2 : Int32) (x3 : Int32) (t_code : Int32) (t_own : Int32) (t_count : Int32) (t_tableSize : Int32) (t_given : Int32) (t_known : Int32) (t_news : Int32) (t_depth : Int32) (t_steps : Int32) (t_taken : Int32) (t_shown : Int32) (t_outcome : Int32) (t_parameters : Nat → Int32) (t_first : Nat → Int32) (t_anew : Nat → Int32) (t_at : Nat → Int32) (t_in : Nat → Int32) (t_back : Nat → Int32) (t_register : Nat → Int32) (t_calls : Nat → Int32) (t_latest : Nat → Int32) (t_differ : Nat → Int32) (out : Int32 × Int32 × (Nat → Int32) × (Nat → Int32) × (Nat → Int32) × (Nat → Int32) × (Nat → Int32) × (Nat → Int32) × (Nat → Int32)) (hf : f_X8_begin N x1 x2 x3 t_depth t_parameters t_first t_anew t_at t_in t_back t_register t_calls t_latest t_differ = some out) : g_Mi l yX8_begin cX8_begin 6 (some .boolean) r_X8_begin tA dC dI cI cZ cJ [.ref a_t, .int x1, .int x2, .int x3] (w_X8_begin cI cZ cJ a_t a_t_parameters a_t_first a_t_anew a_t_at a_t_in a_t_back a_t_register a_t_calls a_t_latest a_t_differ a_t_length a_t_newLength a_t_now a_t_table a_t_inputs a_t_met a_t_any a_t_number a_t_outAny a_t_out a_t_output t_code t_own t_count t_tableSize t_given t_known t_news t_depth t_steps t_taken t_shown t_outcome t_parameters t_first t_anew t_at t_in t_back t_register t_calls t_latest t_differ) (w_X8_begin cI cZ cJ a_t a_t_parameters a_t_first a_t_anew a_t_at a_t_in a_t_back a_t_register a_t_calls a_t_latest a_t_differ a_t_length a_t_newLength a_t_now a_t_table a_t_inputs a_t_met a_t_any a_t_number a_t_outAny a_t_out a_t_output t_code t_own t_count t_tableSize t_given t_known t_news out.2.1 t_steps t_taken t_shown t_outcome t_parameters t_first t_anew out.2.2.1 out.2.2.2.1 out.2.2.2.2.1 out.2.2.2.2.2.1 out.2.2.2.2.2.2.1 out.2.2.2.2.2.2.2.1 out.2.2.2.2.2.2.2.2) out.1 := by
  unfold f_X8_begin at hf
  refine ge_i (by decide) (Nat.le_of_ble_eq_true rfl) (fun p e s m below meth c A H locs ls hC hW hl => ?_)
  have hC : g_C p s m meth c _ cX8_begin 6 (some .boolean) RX8 := hC
  have hx := hC.1
  have hb := hC.2.1
  have hown := hC.2.2.2.2.1
  have hts := hC.2.2.2.2.2.1
  have hl : lv_has ls 6 [(0, .ref a_t), (1, .int x1), (2, .int x2), (3, .int x3)] := hl
  refine lv_aload_n hx hb dX8_begin_0 rfl (lv_at hl 0 rfl) ?_
  refine gs_get hC hW in_X8 0 20 rfl rfl (by decide) fl_X8_180 rfl dX8_begin_1 ?_
  refine lv_bipush (v := 11) hx hb dX8_begin_4 (by decide) ?_
  refine lv_icmp_ne (tgt := 11) hx hb dX8_begin_6 (by decide) (fun c31 => ?_) (fun c31 => ?_)
  · replace hf := (if_neg c31).symm.trans hf
    refine lv_iconst (v := 0) hx hb dX8_begin_11 (by decide) ?_
    refine lv_istore (lv' := [(4, .int 0), (0, .ref a_t), (1, .int x1), (2, .int x2), (3, .int x3)]) hx hb dX8_begin_12 hl (by decide) rfl (fun ls hl => ?_)
    exact b_X8_begin_14 hC N _ _ _ _ _ _ _ _ _ _ hf _ _ _ hW (lv_sub hl [1, 2, 3, 4, 0] rfl)
  · replace hf := (if_pos c31).symm.trans hf
    refine lv_iconst (v := 0) hx hb dX8_begin_9 (by decide) ?_
    obtain rfl := Option.some.inj hf
    exact gs_rz hC hW rfl g_n0 dX8_begin_10

abbrev w_X8_giveBack (cI cZ cJ : ClassId) (a_t : Nat) (a_t_back : Nat) (a_t_register : Nat) (a_t_parameters : Nat) (a_t_length : Nat) (a_t_newLength : Nat) (a_t_first : Nat) (a_t_now : Nat) (a_t_anew : Nat) (a_t_table : Nat) (a_t_inputs : Nat) (a_t_met : Nat) (a_t_any : Nat) (a_t_number : Nat) (a_t_outAny : Nat) (a_t_out : Nat) (a_t_at : Nat) (a_t_in : Nat) (a_t_output : Nat) (a_t_calls : Nat) (a_t_latest : Nat) (a_t_differ : Nat) (t_code : Int32) (t_own : Int32) (t_count : Int32) (t_tableSize : Int32) (t_given : Int32) (t_known : Int32) (t_news : Int32) (t_depth : Int32) (t_steps : Int32) (t_taken : Int32) (t_shown : Int32) (t_outcome : Int32) (t_back : Nat → Int32) (t_register : Nat → Int32) : va_W := [(a_t, .inr (8, [.int t_code, .int t_own, .int t_count, .ref a_t_parameters, .ref a_t_length, .ref a_t_newLength, .ref a_t_first, .ref a_t_now, .ref a_t_anew, .int t_tableSize, .ref a_t_table, .int t_given, .ref a_t_inputs, .int t_known, .ref a_t_met, .ref a_t_any, .ref a_t_number, .int t_news, .ref a_t_outAny, .ref a_t_out, .int t_depth, .int t_steps, .int t_taken, .int t_shown, .ref a_t_at, .ref a_t_in, .ref a_t_back, .ref a_t_register, .ref a_t_output, .ref a_t_calls, .ref a_t_latest, .ref a_t_differ, .int t_outcome])), (a_t_back, .inl (cI, 11, .inl t_back)), (a_t_register, .inl (cI, 66, .inl t_register))]
abbrev r_X8_giveBack : Room := { frames := 0, cells := 0, slots := 0, locals := 0 }
def f_X8_giveBack (x1 : Int32) (t_depth : Int32) (t_back : Nat → Int32) (t_register : Nat → Int32) : Option (Int32 × (Nat → Int32)) := if (t_depth - 1) ≤ 0 then some (t_depth - 1, t_register) else (g_rd 11 t_back (t_depth - 1)).bind (fun v2 => (g_wr 66 t_register ((6 * ((t_depth - 1) - 1)) + v2) x1).bind (fun s3 => some (t_depth - 1, s3)))
set_option maxHeartbeats 4000000 in
set_option maxRecDepth 100000 in
theorem k_X8_giveBack (l : Launch) (tA : Nat) (dC : Nat → ClassId) (dI : Nat → Nat → Nat) (cI cZ cJ : ClassId) (a_t : Nat) (a_t_back : Nat) (a_t_register : Nat) (a_t_parameters : Nat) (a_t_length : Nat) (a_t_newLength : Nat) (a_t_first : Nat) (a_t_now : Nat) (a_t_anew : Nat) (a_t_table : Nat) (a_t_inputs : Nat) (a_t_met : Nat) (a_t_any : Nat) (a_t_number : Nat) (a_t_outAny : Nat) (a_t_out : Nat) (a_t_at : Nat) (a_t_in : Nat) (a_t_output : Nat) (a_t_calls : Nat) (a_t_latest : Nat) (a_t_differ : Nat) (x1 : Int32) (t_code : Int32) (t_own : Int32) (t_count : Int32) (t_tableSize : Int32) (t_given : Int32) (t_known : Int32) (t_news : Int32) (t_depth : Int32) (t_steps : Int32) (t_taken : Int32) (t_shown : Int32) (t_outcome : Int32) (t_back : Nat → Int32) (t_register : Nat → Int32) (out : Int32 × (Nat → Int32)) (hf : f_X8_giveBack x1 t_depth t_back t_register = some out) : g_Mv l yX8_giveBack cX8_giveBack 2 (none : Option Jvm.ClassFile.FieldType) r_X8_giveBack tA dC dI cI cZ cJ [.ref a_t, .int x1] (w_X8_giveBack cI cZ cJ a_t a_t_back a_t_register a_t_parameters a_t_length a_t_newLength a_t_first a_t_now a_t_anew a_t_table a_t_inputs a_t_met a_t_any a_t_number a_t_outAny a_t_out a_t_at a_t_in a_t_output a_t_calls a_t_latest a_t_differ t_code t_own t_count t_tableSize t_given t_known t_news t_depth t_steps t_taken t_shown t_outcome t_back t_register) (w_X8_giveBack cI cZ cJ a_t a_t_back a_t_register a_t_parameters a_t_length a_t_newLength a_t_first a_t_now a_t_anew a_t_table a_t_inputs a_t_met a_t_any a_t_number a_t_outAny a_t_out a_t_at a_t_in a_t_output a_t_calls a_t_latest a_t_differ t_code t_own t_count t_tableSize t_given t_known t_news out.1 t_steps t_taken t_shown t_outcome t_back out.2) := by
  unfold f_X8_giveBack at hf
  refine ge_v (by decide) (Nat.le_of_ble_eq_true rfl) (fun p e s m below meth c A H locs ls hC hW hl => ?_)
  have hC : g_C p s m meth c _ cX8_giveBack 2 (none : Option Jvm.ClassFile.FieldType) RX8 := hC
  have hx := hC.1
  have hb := hC.2.1
  have hown := hC.2.2.2.2.1
  have hts := hC.2.2.2.2.2.1
  have hl : lv_has ls 2 [(0, .ref a_t), (1, .int x1)] := hl
  refine lv_aload_n hx hb dX8_giveBack_0 rfl (lv_at hl 0 rfl) ?_
  refine lv_dup hx hb dX8_giveBack_1 rfl ?_
  refine gs_get hC hW in_X8 0 20 rfl rfl (by decide) fl_X8_180 rfl dX8_giveBack_2 ?_
  refine lv_iconst (v := 1) hx hb dX8_giveBack_5 (by decide) ?_
  refine lv_isub hx hb dX8_giveBack_6 ?_
  refine gs_put (ws' := w_X8_giveBack cI cZ cJ a_t a_t_back a_t_register a_t_parameters a_t_length a_t_newLength a_t_first a_t_now a_t_anew a_t_table a_t_inputs a_t_met a_t_any a_t_number a_t_outAny a_t_out a_t_at a_t_in a_t_output a_t_calls a_t_latest a_t_differ t_code t_own t_count t_tableSize t_given t_known t_news (t_depth - 1) t_steps t_taken t_shown t_outcome t_back t_register) hC hW in_X8 tyX8_ok nmX8 0 20 rfl rfl (by decide) fl_X8_180 rfl rfl rfl (Nat.le_of_ble_eq_true rfl) rfl dX8_giveBack_7 (fun H locs hW => ?_)
  refine lv_aload_n hx hb dX8_giveBack_10 rfl (lv_at hl 0 rfl) ?_
  refine gs_get hC hW in_X8 0 20 rfl rfl (by decide) fl_X8_180 rfl dX8_giveBack_11 ?_
  refine lv_if_le (tgt := 42) hx hb dX8_giveBack_14 (by decide) (fun c1 => ?_) (fun c1 => ?_)
  · replace hf := (if_pos c1).symm.trans hf
    obtain rfl := Option.some.inj hf
    exact gs_rv hC hW rfl dX8_giveBack_42
  · replace hf := (if_neg c1).symm.trans hf
    refine lv_aload_n hx hb dX8_giveBack_17 rfl (lv_at hl 0 rfl) ?_
    refine gs_get hC hW in_X8 0 27 rfl rfl (by decide) fl_X8_59 rfl dX8_giveBack_18 ?_
    refine lv_bipush (v := 6) hx hb dX8_giveBack_21 (by decide) ?_
    refine lv_aload_n hx hb dX8_giveBack_23 rfl (lv_at hl 0 rfl) ?_
    refine gs_get hC hW in_X8 0 20 rfl rfl (by decide) fl_X8_180 rfl dX8_giveBack_24 ?_
    refine lv_iconst (v := 1) hx hb dX8_giveBack_27 (by decide) ?_
    refine lv_isub hx hb dX8_giveBack_28 ?_
    refine lv_imul hx hb dX8_giveBack_29 ?_
    refine lv_aload_n hx hb dX8_giveBack_30 rfl (lv_at hl 0 rfl) ?_
    refine gs_get hC hW in_X8 0 26 rfl rfl (by decide) fl_X8_56 rfl dX8_giveBack_31 ?_
    refine lv_aload_n hx hb dX8_giveBack_34 rfl (lv_at hl 0 rfl) ?_
    refine gs_get hC hW in_X8 0 20 rfl rfl (by decide) fl_X8_180 rfl dX8_giveBack_35 ?_
    obtain ⟨v2, h2, hf⟩ := g_bnd hf
    refine gs_iald hC hW 1 h2 rfl dX8_giveBack_38 ?_
    refine lv_iadd hx hb dX8_giveBack_39 ?_
    refine lv_iload_n hx hb dX8_giveBack_40 rfl (lv_at hl 1 rfl) ?_
    obtain ⟨s3, h3, hf⟩ := g_bnd hf
    refine gs_iast (ws' := w_X8_giveBack cI cZ cJ a_t a_t_back a_t_register a_t_parameters a_t_length a_t_newLength a_t_first a_t_now a_t_anew a_t_table a_t_inputs a_t_met a_t_any a_t_number a_t_outAny a_t_out a_t_at a_t_in a_t_output a_t_calls a_t_latest a_t_differ t_code t_own t_count t_tableSize t_given t_known t_news (t_depth - 1) t_steps t_taken t_shown t_outcome t_back s3) hC hW 2 h3 rfl rfl dX8_giveBack_41 (fun H locs hW => ?_)
    obtain rfl := Option.some.inj hf
    exact gs_rv hC hW rfl dX8_giveBack_42

abbrev w_X8_perform (cI cZ cJ : ClassId) (a_t : Nat) (a_t_parameters : Nat) (a_t_first : Nat) (a_t_anew : Nat) (a_t_table : Nat) (a_t_inputs : Nat) (a_t_at : Nat) (a_t_in : Nat) (a_t_back : Nat) (a_t_register : Nat) (a_t_output : Nat) (a_t_calls : Nat) (a_t_latest : Nat) (a_t_differ : Nat) (a_t_length : Nat) (a_t_newLength : Nat) (a_t_now : Nat) (a_t_met : Nat) (a_t_any : Nat) (a_t_number : Nat) (a_t_outAny : Nat) (a_t_out : Nat) (t_code : Int32) (t_own : Int32) (t_count : Int32) (t_tableSize : Int32) (t_given : Int32) (t_known : Int32) (t_news : Int32) (t_depth : Int32) (t_steps : Int32) (t_taken : Int32) (t_shown : Int32) (t_outcome : Int32) (t_parameters : Nat → Int32) (t_first : Nat → Int32) (t_anew : Nat → Int32) (t_table : Nat → Int32) (t_inputs : Nat → Int32) (t_at : Nat → Int32) (t_in : Nat → Int32) (t_back : Nat → Int32) (t_register : Nat → Int32) (t_output : Nat → Int32) (t_calls : Nat → Int32) (t_latest : Nat → Int32) (t_differ : Nat → Int32) : va_W := [(a_t, .inr (8, [.int t_code, .int t_own, .int t_count, .ref a_t_parameters, .ref a_t_length, .ref a_t_newLength, .ref a_t_first, .ref a_t_now, .ref a_t_anew, .int t_tableSize, .ref a_t_table, .int t_given, .ref a_t_inputs, .int t_known, .ref a_t_met, .ref a_t_any, .ref a_t_number, .int t_news, .ref a_t_outAny, .ref a_t_out, .int t_depth, .int t_steps, .int t_taken, .int t_shown, .ref a_t_at, .ref a_t_in, .ref a_t_back, .ref a_t_register, .ref a_t_output, .ref a_t_calls, .ref a_t_latest, .ref a_t_differ, .int t_outcome])), (a_t_parameters, .inl (cI, 12, .inl t_parameters)), (a_t_first, .inl (cI, 576, .inl t_first)), (a_t_anew, .inl (cI, 1152, .inl t_anew)), (a_t_table, .inl (cI, 4, .inl t_table)), (a_t_inputs, .inl (cI, 12, .inl t_inputs)), (a_t_at, .inl (cI, 11, .inl t_at)), (a_t_in, .inl (cI, 11, .inl t_in)), (a_t_back, .inl (cI, 11, .inl t_back)), (a_t_register, .inl (cI, 66, .inl t_register)), (a_t_output, .inl (cI, 40, .inl t_output)), (a_t_calls, .inl (cI, 12, .inl t_calls)), (a_t_latest, .inl (cI, 36, .inl t_latest)), (a_t_differ, .inl (cZ, 36, .inl t_differ))]
abbrev r_X8_perform : Room := { frames := 3, cells := 0, slots := 0, locals := 66 }
def f_X8_perform_159 (N : Nat) (x1 : Int32) (x2 : Int32) (t_tableSize : Int32) (t_given : Int32) (t_parameters : Nat → Int32) (t_first : Nat → Int32) (t_anew : Nat → Int32) (t_table : Nat → Int32) (t_inputs : Nat → Int32) (x3 : Int32) (x4 : Int32) (x5 : Int32) (x6 : Int32) (z0 : Int32) (t_depth : Int32) (t_taken : Int32) (t_shown : Int32) (t_at : Nat → Int32) (t_in : Nat → Int32) (t_back : Nat → Int32) (t_register : Nat → Int32) (t_output : Nat → Int32) (t_calls : Nat → Int32) (t_latest : Nat → Int32) (t_differ : Nat → Int32) : Option (Int32 × Int32 × Int32 × Int32 × (Nat → Int32) × (Nat → Int32) × (Nat → Int32) × (Nat → Int32) × (Nat → Int32) × (Nat → Int32) × (Nat → Int32) × (Nat → Int32)) := (g_rd 11 t_at (t_depth - 1)).bind (fun v1 => (g_wr 11 t_at (t_depth - 1) (v1 + 1)).bind (fun s2 => if x3 = 5 then if t_given ≤ t_taken then (g_wr 66 t_register x4 0).bind (fun s5 => some (1, t_depth, t_taken + 1, t_shown, s2, t_in, t_back, s5, t_output, t_calls, t_latest, t_differ)) else (g_rd 12 t_inputs t_taken).bind (fun v6 => (g_wr 66 t_register x4 v6).bind (fun s7 => some (1, t_depth, t_taken + 1, t_shown, s2, t_in, t_back, s7, t_output, t_calls, t_latest, t_differ))) else if x3 = 6 then if t_shown = 40 then some (0, t_depth, t_taken, t_shown, s2, t_in, t_back, t_register, t_output, t_calls, t_latest, t_differ) else (g_wr 40 t_output t_shown x6).bind (fun s10 => some (1, t_depth, t_taken, t_shown + 1, s2, t_in, t_back, t_register, s10, t_calls, t_latest, t_differ)) else if x3 = 7 then if x3 = 8 then (g_wr 11 s2 (t_depth - 1) x5).bind (fun s13 => some (1, t_depth, t_taken, t_shown, s13, t_in, t_back, t_register, t_output, t_calls, t_latest, t_differ)) else if x6 = 0 then some (1, t_depth, t_taken, t_shown, s2, t_in, t_back, t_register, t_output, t_calls, t_latest, t_differ) else (g_wr 11 s2 (t_depth - 1) x5).bind (fun s15 => some (1, t_depth, t_taken, t_shown, s15, t_in, t_back, t_register, t_output, t_calls, t_latest, t_differ)) else if x3 = 8 then if x3 = 8 then (g_wr 11 s2 (t_depth - 1) x5).bind (fun s18 => some (1, t_depth, t_taken, t_shown, s18, t_in, t_back, t_register, t_output, t_calls, t_latest, t_differ)) else if x6 = 0 then some (1, t_depth, t_taken, t_shown, s2, t_in, t_back, t_register, t_output, t_calls, t_latest, t_differ) else (g_wr 11 s2 (t_depth - 1) x5).bind (fun s20 => some (1, t_depth, t_taken, t_shown, s20, t_in, t_back, t_register, t_output, t_calls, t_latest, t_differ)) else if x3 = 9 then (f_X8_giveBack x6 t_depth t_back t_register).bind (fun o22 => some (1, o22.1, t_taken, t_shown, s2, t_in, t_back, o22.2, t_output, t_calls, t_latest, t_differ)) else if x3 = 10 then (f_X8_begin N x1 x5 x2 t_depth t_parameters t_first t_anew s2 t_in t_back t_register t_calls t_latest t_differ).bind (fun o24 => (g_zr o24.1).bind (fun v25 => some (v25, o24.2.1, t_taken, t_shown, o24.2.2.1, o24.2.2.2.1, o24.2.2.2.2.1, o24.2.2.2.2.2.1, t_output, o24.2.2.2.2.2.2.1, o24.2.2.2.2.2.2.2.1, o24.2.2.2.2.2.2.2.2))) else if x3 = 11 then if t_tableSize ≤ 0 then (g_wr 66 t_register x4 0).bind (fun s28 => some (1, t_depth, t_taken, t_shown, s2, t_in, t_back, s28, t_output, t_calls, t_latest, t_differ)) else (f_X8_valueOf x5 t_depth t_register).bind (fun o29 => (f_X8_entry o29 t_tableSize t_table).bind (fun o30 => (f_X8_begin N x1 o30 x2 t_depth t_parameters t_first t_anew s2 t_in t_back t_register t_calls t_latest t_differ).bind (fun o31 => (g_zr o31.1).bind (fun v32 => some (v32, o31.2.1, t_taken, t_shown, o31.2.2.1, o31.2.2.2.1, o31.2.2.2.2.1, o31.2.2.2.2.2.1, t_output, o31.2.2.2.2.2.2.1, o31.2.2.2.2.2.2.2.1, o31.2.2.2.2.2.2.2.2))))) else if x3 = 12 then some (1, t_depth, t_taken, t_shown, s2, t_in, t_back, t_register, t_output, t_calls, t_latest, t_differ) else (f_X8_reckon x3 x6 z0).bind (fun o34 => (g_wr 66 t_register x4 o34).bind (fun s35 => some (1, t_depth, t_taken, t_shown, s2, t_in, t_back, s35, t_output, t_calls, t_latest, t_differ)))))
set_option maxHeartbeats 4000000 in
set_option maxRecDepth 100000 in
theorem b_X8_perform_159 {p : Program} {l : Launch} {e : Env} {s : State} {m : MethodId} {args : Array Value} {below : List Frame} {meth : Method} {c : Code} {tA : Nat} {dC : Nat → ClassId} {dI : Nat → Nat → Nat} {cI cZ cJ : ClassId} {A : Nat → Prop} {a_t : Nat} {a_t_parameters : Nat} {a_t_first : Nat} {a_t_anew : Nat} {a_t_table : Nat} {a_t_inputs : Nat} {a_t_at : Nat} {a_t_in : Nat} {a_t_back : Nat} {a_t_register : Nat} {a_t_output : Nat} {a_t_calls : Nat} {a_t_latest : Nat} {a_t_differ : Nat} {a_t_length : Nat} {a_t_newLength : Nat} {a_t_now : Nat} {a_t_met : Nat} {a_t_any : Nat} {a_t_number : Nat} {a_t_outAny : Nat} {a_t_out : Nat} {x1 : Int32} {x2 : Int32} {t_tableSize : Int32} {t_given : Int32} {t_parameters : Nat → Int32} {t_first : Nat → Int32} {t_anew : Nat → Int32} {t_table : Nat → Int32} {t_inputs : Nat → Int32} {t_code : Int32} {t_own : Int32} {t_count : Int32} {t_known : Int32} {t_news : Int32} {t_steps : Int32} {t_outcome : Int32} {N : Nat} {x3 : Int32} {x4 : Int32} {x5 : Int32} {x6 : Int32} {z0 : Int32} {t_depth : Int32} {t_taken : Int32} {t_shown : Int32} {t_at : Nat → Int32} {t_in : Nat → Int32} {t_back : Nat → Int32} {t_register : Nat → Int32} {t_output : Nat → Int32} {t_calls : Nat → Int32} {t_latest : Nat → Int32} {t_differ : Nat → Int32} {out : Int32 × Int32 × Int32 × Int32 × (Nat → Int32) × (Nat → Int32) × (Nat → Int32) × (Nat → Int32) × (Nat → Int32) × (Nat → Int32) × (Nat → Int32) × (Nat → Int32)} (hC : g_C p s m meth c args cX8_perform 8 (some .boolean) RX8) (hf : f_X8_perform_159 N x1 x2 t_tableSize t_given t_parameters t_first t_anew t_table t_inputs x3 x4 x5 x6 z0 t_depth t_taken t_shown t_at t_in t_back t_register t_output t_calls t_latest t_differ = some out) {H : Heap} {locs : List Loc} {ls : Array Slot} (hW : g_W tA dC dI cI cZ cJ A s H locs (w_X8_perform cI cZ cJ a_t a_t_parameters a_t_first a_t_anew a_t_table a_t_inputs a_t_at a_t_in a_t_back a_t_register a_t_output a_t_calls a_t_latest a_t_differ a_t_length a_t_newLength a_t_now a_t_met a_t_any a_t_number a_t_outAny a_t_out t_code t_own t_count t_tableSize t_given t_known t_news t_depth t_steps t_taken t_shown t_outcome t_parameters t_first t_anew t_table t_inputs t_at t_in t_back t_register t_output t_calls t_latest t_differ)) (hl : lv_has ls 8 [(0, .ref a_t), (1, .int x1), (2, .int x2), (3, .int x3), (4, .int x4), (5, .int x5), (6, .int x6)]) : W p l e r_X8_perform s m args below meth c H locs 0 0 (MQ below (g_Qi dC dI cI cZ cJ A (w_X8_perform cI cZ cJ a_t a_t_parameters a_t_first a_t_anew a_t_table a_t_inputs a_t_at a_t_in a_t_back a_t_register a_t_output a_t_calls a_t_latest a_t_differ a_t_length a_t_newLength a_t_now a_t_met a_t_any a_t_number a_t_outAny a_t_out t_code t_own t_count t_tableSize t_given t_known t_news out.2.1 t_steps out.2.2.1 out.2.2.2.1 t_outcome t_parameters t_first t_anew t_table t_inputs out.2.2.2.2.1 out.2.2.2.2.2.1 out.2.2.2.2.2.2.1 out.2.2.2.2.2.2.2.1 out.2.2.2.2.2.2.2.2.1 out.2.2.2.2.2.2.2.2.2.1 out.2.2.2.2.2.2.2.2.2.2.1 out.2.2.2.2.2.2.2.2.2.2.2) out.1) args s 0 0 A) (F0 m 159 ls [.int z0]) := by
  have hx := hC.1
  have hb := hC.2.1
  have hown := hC.2.2.2.2.1
  have hts := hC.2.2.2.2.2.1
  unfold f_X8_perform_159 at hf
  refine lv_istore (lv' := [(7, .int z0), (0, .ref a_t), (1, .int x1), (2, .int x2), (3, .int x3), (4, .int x4), (5, .int x5), (6, .int x6)]) hx hb dX8_perform_159 hl (by decide) rfl (fun ls hl => ?_)
  refine lv_aload_n hx hb dX8_perform_161 rfl (lv_at hl 1 rfl) ?_
  refine gs_get hC hW in_X8 0 24 rfl rfl (by decide) fl_X8_50 rfl dX8_perform_162 ?_
  refine lv_aload_n hx hb dX8_perform_165 rfl (lv_at hl 1 rfl) ?_
  refine gs_get hC hW in_X8 0 20 rfl rfl (by decide) fl_X8_180 rfl dX8_perform_166 ?_
  refine lv_iconst (v := 1) hx hb dX8_perform_169 (by decide) ?_
  refine lv_isub hx hb dX8_perform_170 ?_
  refine lv_dup2_11 hx hb dX8_perform_171 rfl rfl ?_
  obtain ⟨v1, h1, hf⟩ := g_bnd hf
  refine gs_iald hC hW 6 h1 rfl dX8_perform_172 ?_
  refine lv_iconst (v := 1) hx hb dX8_perform_173 (by decide) ?_
  refine lv_iadd hx hb dX8_perform_174 ?_
  obtain ⟨s2, h2, hf⟩ := g_bnd hf
  refine gs_iast (ws' := w_X8_perform cI cZ cJ a_t a_t_parameters a_t_first a_t_anew a_t_table a_t_inputs a_t_at a_t_in a_t_back a_t_register a_t_output a_t_calls a_t_latest a_t_differ a_t_length a_t_newLength a_t_now a_t_met a_t_any a_t_number a_t_outAny a_t_out t_code t_own t_count t_tableSize t_given t_known t_news t_depth t_steps t_taken t_shown t_outcome t_parameters t_first t_anew t_table t_inputs s2 t_in t_back t_register t_output t_calls t_latest t_differ) hC hW 6 h2 rfl rfl dX8_perform_175 (fun H locs hW => ?_)
  refine lv_iload_n hx hb dX8_perform_176 rfl (lv_at hl 4 rfl) ?_
  by_cases c3 : x3 = 5
  · replace hf := (if_pos c3).symm.trans hf
    refine lv_tableIn (off := 47) (tgt := 224) hx hb dX8_perform_177 (by rw [c3]; decide) (by rw [c3]; decide) (by rw [c3]; decide) (by decide) ?_
    refine lv_aload_n hx hb dX8_perform_224 rfl (lv_at hl 1 rfl) ?_
    refine gs_get hC hW in_X8 0 27 rfl rfl (by decide) fl_X8_59 rfl dX8_perform_225 ?_
    refine lv_iload hx hb dX8_perform_228 (lv_at hl 5 rfl) ?_
    refine lv_aload_n hx hb dX8_perform_230 rfl (lv_at hl 1 rfl) ?_
    refine gs_get hC hW in_X8 0 22 rfl rfl (by decide) fl_X8_189 rfl dX8_perform_231 ?_
    refine lv_aload_n hx hb dX8_perform_234 rfl (lv_at hl 1 rfl) ?_
    refine gs_get hC hW in_X8 0 11 rfl rfl (by decide) fl_X8_109 rfl dX8_perform_235 ?_
    refine lv_icmp_ge (tgt := 253) hx hb dX8_perform_238 (by decide) (fun c4 => ?_) (fun c4 => ?_)
    · replace hf := (if_pos c4).symm.trans hf
      refine lv_iconst (v := 0) hx hb dX8_perform_253 (by decide) ?_
      obtain ⟨s5, h5, hf⟩ := g_bnd hf
      refine gs_iast (ws' := w_X8_perform cI cZ cJ a_t a_t_parameters a_t_first a_t_anew a_t_table a_t_inputs a_t_at a_t_in a_t_back a_t_register a_t_output a_t_calls a_t_latest a_t_differ a_t_length a_t_newLength a_t_now a_t_met a_t_any a_t_number a_t_outAny a_t_out t_code t_own t_count t_tableSize t_given t_known t_news t_depth t_steps t_taken t_shown t_outcome t_parameters t_first t_anew t_table t_inputs s2 t_in t_back s5 t_output t_calls t_latest t_differ) hC hW 9 h5 rfl rfl dX8_perform_254 (fun H locs hW => ?_)
      refine lv_aload_n hx hb dX8_perform_255 rfl (lv_at hl 1 rfl) ?_
      refine lv_dup hx hb dX8_perform_256 rfl ?_
      refine gs_get hC hW in_X8 0 22 rfl rfl (by decide) fl_X8_189 rfl dX8_perform_257 ?_
      refine lv_iconst (v := 1) hx hb dX8_perform_260 (by decide) ?_
      refine lv_iadd hx hb dX8_perform_261 ?_
      refine gs_put (ws' := w_X8_perform cI cZ cJ a_t a_t_parameters a_t_first a_t_anew a_t_table a_t_inputs a_t_at a_t_in a_t_back a_t_register a_t_output a_t_calls a_t_latest a_t_differ a_t_length a_t_newLength a_t_now a_t_met a_t_any a_t_number a_t_outAny a_t_out t_code t_own t_count t_tableSize t_given t_known t_news t_depth t_steps (t_taken + 1) t_shown t_outcome t_parameters t_first t_anew t_table t_inputs s2 t_in t_back s5 t_output t_calls t_latest t_differ) hC hW in_X8 tyX8_ok nmX8 0 22 rfl rfl (by decide) fl_X8_189 rfl rfl rfl (Nat.le_of_ble_eq_true rfl) rfl dX8_perform_262 (fun H locs hW => ?_)
      refine lv_iconst (v := 1) hx hb dX8_perform_265 (by decide) ?_
      obtain rfl := Option.some.inj hf
      exact gs_rz hC hW rfl g_n1 dX8_perform_266
    · replace hf := (if_neg c4).symm.trans hf
      refine lv_aload_n hx hb dX8_perform_241 rfl (lv_at hl 1 rfl) ?_
      refine gs_get hC hW in_X8 0 12 rfl rfl (by decide) fl_X8_31 rfl dX8_perform_242 ?_
      refine lv_aload_n hx hb dX8_perform_245 rfl (lv_at hl 1 rfl) ?_
      refine gs_get hC hW in_X8 0 22 rfl rfl (by decide) fl_X8_189 rfl dX8_perform_246 ?_
      obtain ⟨v6, h6, hf⟩ := g_bnd hf
      refine gs_iald hC hW 5 h6 rfl dX8_perform_249 ?_
      refine lv_goto (tgt := 254) hx hb dX8_perform_250 (by decide) ?_
      obtain ⟨s7, h7, hf⟩ := g_bnd hf
      refine gs_iast (ws' := w_X8_perform cI cZ cJ a_t a_t_parameters a_t_first a_t_anew a_t_table a_t_inputs a_t_at a_t_in a_t_back a_t_register a_t_output a_t_calls a_t_latest a_t_differ a_t_length a_t_newLength a_t_now a_t_met a_t_any a_t_number a_t_outAny a_t_out t_code t_own t_count t_tableSize t_given t_known t_news t_depth t_steps t_taken t_shown t_outcome t_parameters t_first t_anew t_table t_inputs s2 t_in t_back s7 t_output t_calls t_latest t_differ) hC hW 9 h7 rfl rfl dX8_perform_254 (fun H locs hW => ?_)
      refine lv_aload_n hx hb dX8_perform_255 rfl (lv_at hl 1 rfl) ?_
      refine lv_dup hx hb dX8_perform_256 rfl ?_
      refine gs_get hC hW in_X8 0 22 rfl rfl (by decide) fl_X8_189 rfl dX8_perform_257 ?_
      refine lv_iconst (v := 1) hx hb dX8_perform_260 (by decide) ?_
      refine lv_iadd hx hb dX8_perform_261 ?_
      refine gs_put (ws' := w_X8_perform cI cZ cJ a_t a_t_parameters a_t_first a_t_anew a_t_table a_t_inputs a_t_at a_t_in a_t_back a_t_register a_t_output a_t_calls a_t_latest a_t_differ a_t_length a_t_newLength a_t_now a_t_met a_t_any a_t_number a_t_outAny a_t_out t_code t_own t_count t_tableSize t_given t_known t_news t_depth t_steps (t_taken + 1) t_shown t_outcome t_parameters t_first t_anew t_table t_inputs s2 t_in t_back s7 t_output t_calls t_latest t_differ) hC hW in_X8 tyX8_ok nmX8 0 22 rfl rfl (by decide) fl_X8_189 rfl rfl rfl (Nat.le_of_ble_eq_true rfl) rfl dX8_perform_262 (fun H locs hW => ?_)
      refine lv_iconst (v := 1) hx hb dX8_perform_265 (by decide) ?_
      obtain rfl := Option.some.inj hf
      exact gs_rz hC hW rfl g_n1 dX8_perform_266
  · replace hf := (if_neg c3).symm.trans hf
    by_cases c8 : x3 = 6
    · replace hf := (if_pos c8).symm.trans hf
      refine lv_tableIn (off := 90) (tgt := 267) hx hb dX8_perform_177 (by rw [c8]; decide) (by rw [c8]; decide) (by rw [c8]; decide) (by decide) ?_
      refine lv_aload_n hx hb dX8_perform_267 rfl (lv_at hl 1 rfl) ?_
      refine gs_get hC hW in_X8 0 23 rfl rfl (by decide) fl_X8_192 rfl dX8_perform_268 ?_
      refine lv_bipush (v := 40) hx hb dX8_perform_271 (by decide) ?_
      refine lv_icmp_ne (tgt := 278) hx hb dX8_perform_273 (by decide) (fun c9 => ?_) (fun c9 => ?_)
      · replace hf := (if_neg c9).symm.trans hf
        refine lv_aload_n hx hb dX8_perform_278 rfl (lv_at hl 1 rfl) ?_
        refine gs_get hC hW in_X8 0 28 rfl rfl (by decide) fl_X8_62 rfl dX8_perform_279 ?_
        refine lv_aload_n hx hb dX8_perform_282 rfl (lv_at hl 1 rfl) ?_
        refine gs_get hC hW in_X8 0 23 rfl rfl (by decide) fl_X8_192 rfl dX8_perform_283 ?_
        refine lv_iload hx hb dX8_perform_286 (lv_at hl 7 rfl) ?_
        obtain ⟨s10, h10, hf⟩ := g_bnd hf
        refine gs_iast (ws' := w_X8_perform cI cZ cJ a_t a_t_parameters a_t_first a_t_anew a_t_table a_t_inputs a_t_at a_t_in a_t_back a_t_register a_t_output a_t_calls a_t_latest a_t_differ a_t_length a_t_newLength a_t_now a_t_met a_t_any a_t_number a_t_outAny a_t_out t_code t_own t_count t_tableSize t_given t_known t_news t_depth t_steps t_taken t_shown t_outcome t_parameters t_first t_anew t_table t_inputs s2 t_in t_back t_register s10 t_calls t_latest t_differ) hC hW 10 h10 rfl rfl dX8_perform_288 (fun H locs hW => ?_)
        refine lv_aload_n hx hb dX8_perform_289 rfl (lv_at hl 1 rfl) ?_
        refine lv_dup hx hb dX8_perform_290 rfl ?_
        refine gs_get hC hW in_X8 0 23 rfl rfl (by decide) fl_X8_192 rfl dX8_perform_291 ?_
        refine lv_iconst (v := 1) hx hb dX8_perform_294 (by decide) ?_
        refine lv_iadd hx hb dX8_perform_295 ?_
        refine gs_put (ws' := w_X8_perform cI cZ cJ a_t a_t_parameters a_t_first a_t_anew a_t_table a_t_inputs a_t_at a_t_in a_t_back a_t_register a_t_output a_t_calls a_t_latest a_t_differ a_t_length a_t_newLength a_t_now a_t_met a_t_any a_t_number a_t_outAny a_t_out t_code t_own t_count t_tableSize t_given t_known t_news t_depth t_steps t_taken (t_shown + 1) t_outcome t_parameters t_first t_anew t_table t_inputs s2 t_in t_back t_register s10 t_calls t_latest t_differ) hC hW in_X8 tyX8_ok nmX8 0 23 rfl rfl (by decide) fl_X8_192 rfl rfl rfl (Nat.le_of_ble_eq_true rfl) rfl dX8_perform_296 (fun H locs hW => ?_)
        refine lv_iconst (v := 1) hx hb dX8_perform_299 (by decide) ?_
        obtain rfl := Option.some.inj hf
        exact gs_rz hC hW rfl g_n1 dX8_perform_300
      · replace hf := (if_pos c9).symm.trans hf
        refine lv_iconst (v := 0) hx hb dX8_perform_276 (by decide) ?_
        obtain rfl := Option.some.inj hf
        exact gs_rz hC hW rfl g_n0 dX8_perform_277
    · replace hf := (if_neg c8).symm.trans hf
      by_cases c11 : x3 = 7
      · replace hf := (if_pos c11).symm.trans hf
        refine lv_tableIn (off := 124) (tgt := 301) hx hb dX8_perform_177 (by rw [c11]; decide) (by rw [c11]; decide) (by rw [c11]; decide) (by decide) ?_
        refine lv_iload_n hx hb dX8_perform_301 rfl (lv_at hl 4 rfl) ?_
        refine lv_bipush (v := 8) hx hb dX8_perform_302 (by decide) ?_
        refine lv_icmp_eq (tgt := 312) hx hb dX8_perform_304 (by decide) (fun c12 => ?_) (fun c12 => ?_)
        · replace hf := (if_pos c12).symm.trans hf
          refine lv_aload_n hx hb dX8_perform_312 rfl (lv_at hl 1 rfl) ?_
          refine gs_get hC hW in_X8 0 24 rfl rfl (by decide) fl_X8_50 rfl dX8_perform_313 ?_
          refine lv_aload_n hx hb dX8_perform_316 rfl (lv_at hl 1 rfl) ?_
          refine gs_get hC hW in_X8 0 20 rfl rfl (by decide) fl_X8_180 rfl dX8_perform_317 ?_
          refine lv_iconst (v := 1) hx hb dX8_perform_320 (by decide) ?_
          refine lv_isub hx hb dX8_perform_321 ?_
          refine lv_iload hx hb dX8_perform_322 (lv_at hl 6 rfl) ?_
          obtain ⟨s13, h13, hf⟩ := g_bnd hf
          refine gs_iast (ws' := w_X8_perform cI cZ cJ a_t a_t_parameters a_t_first a_t_anew a_t_table a_t_inputs a_t_at a_t_in a_t_back a_t_register a_t_output a_t_calls a_t_latest a_t_differ a_t_length a_t_newLength a_t_now a_t_met a_t_any a_t_number a_t_outAny a_t_out t_code t_own t_count t_tableSize t_given t_known t_news t_depth t_steps t_taken t_shown t_outcome t_parameters t_first t_anew t_table t_inputs s13 t_in t_back t_register t_output t_calls t_latest t_differ) hC hW 6 h13 rfl rfl dX8_perform_324 (fun H locs hW => ?_)
          refine lv_iconst (v := 1) hx hb dX8_perform_325 (by decide) ?_
          obtain rfl := Option.some.inj hf
          exact gs_rz hC hW rfl g_n1 dX8_perform_326
        · replace hf := (if_neg c12).symm.trans hf
          refine lv_iload hx hb dX8_perform_307 (lv_at hl 7 rfl) ?_
          refine lv_if_eq (tgt := 325) hx hb dX8_perform_309 (by decide) (fun c14 => ?_) (fun c14 => ?_)
          · replace hf := (if_pos c14).symm.trans hf
            refine lv_iconst (v := 1) hx hb dX8_perform_325 (by decide) ?_
            obtain rfl := Option.some.inj hf
            exact gs_rz hC hW rfl g_n1 dX8_perform_326
          · replace hf := (if_neg c14).symm.trans hf
            refine lv_aload_n hx hb dX8_perform_312 rfl (lv_at hl 1 rfl) ?_
            refine gs_get hC hW in_X8 0 24 rfl rfl (by decide) fl_X8_50 rfl dX8_perform_313 ?_
            refine lv_aload_n hx hb dX8_perform_316 rfl (lv_at hl 1 rfl) ?_
            refine gs_get hC hW in_X8 0 20 rfl rfl (by decide) fl_X8_180 rfl dX8_perform_317 ?_
            refine lv_iconst (v := 1) hx hb dX8_perform_320 (by decide) ?_
            refine lv_isub hx hb dX8_perform_321 ?_
            refine lv_iload hx hb dX8_perform_322 (lv_at hl 6 rfl) ?_
            obtain ⟨s15, h15, hf⟩ := g_bnd hf
            refine gs_iast (ws' := w_X8_perform cI cZ cJ a_t a_t_parameters a_t_first a_t_anew a_t_table a_t_inputs a_t_at a_t_in a_t_back a_t_register a_t_output a_t_calls a_t_latest a_t_differ a_t_length a_t_newLength a_t_now a_t_met a_t_any a_t_number a_t_outAny a_t_out t_code t_own t_count t_tableSize t_given t_known t_news t_depth t_steps t_taken t_shown t_outcome t_parameters t_first t_anew t_table t_inputs s15 t_in t_back t_register t_output t_calls t_latest t_differ) hC hW 6 h15 rfl rfl dX8_perform_324 (fun H locs hW => ?_)
            refine lv_iconst (v := 1) hx hb dX8_perform_325 (by decide) ?_
            obtain rfl := Option.some.inj hf
            exact gs_rz hC hW rfl g_n1 dX8_perform_326
      · replace hf := (if_neg c11).symm.trans hf
        by_cases c16 : x3 = 8
        · replace hf := (if_pos c16).symm.trans hf
          refine lv_tableIn (off := 124) (tgt := 301) hx hb dX8_perform_177 (by rw [c16]; decide) (by rw [c16]; decide) (by rw [c16]; decide) (by decide) ?_
          refine lv_iload_n hx hb dX8_perform_301 rfl (lv_at hl 4 rfl) ?_
          refine lv_bipush (v := 8) hx hb dX8_perform_302 (by decide) ?_
          refine lv_icmp_eq (tgt := 312) hx hb dX8_perform_304 (by decide) (fun c17 => ?_) (fun c17 => ?_)
          · replace hf := (if_pos c17).symm.trans hf
            refine lv_aload_n hx hb dX8_perform_312 rfl (lv_at hl 1 rfl) ?_
            refine gs_get hC hW in_X8 0 24 rfl rfl (by decide) fl_X8_50 rfl dX8_perform_313 ?_
            refine lv_aload_n hx hb dX8_perform_316 rfl (lv_at hl 1 rfl) ?_
            refine gs_get hC hW in_X8 0 20 rfl rfl (by decide) fl_X8_180 rfl dX8_perform_317 ?_
            refine lv_iconst (v := 1) hx hb dX8_perform_320 (by decide) ?_
            refine lv_isub hx hb dX8_perform_321 ?_
            refine lv_iload hx hb dX8_perform_322 (lv_at hl 6 rfl) ?_
            obtain ⟨s18, h18, hf⟩ := g_bnd hf
            refine gs_iast (ws' := w_X8_perform cI cZ cJ a_t a_t_parameters a_t_first a_t_anew a_t_table a_t_inputs a_t_at a_t_in a_t_back a_t_register a_t_output a_t_calls a_t_latest a_t_differ a_t_length a_t_newLength a_t_now a_t_met a_t_any a_t_number a_t_outAny a_t_out t_code t_own t_count t_tableSize t_given t_known t_news t_depth t_steps t_taken t_shown t_outcome t_parameters t_first t_anew t_table t_inputs s18 t_in t_back t_register t_output t_calls t_latest t_differ) hC hW 6 h18 rfl rfl dX8_perform_324 (fun H locs hW => ?_)
            refine lv_iconst (v := 1) hx hb dX8_perform_325 (by decide) ?_
            obtain rfl := Option.some.inj hf
            exact gs_rz hC hW rfl g_n1 dX8_perform_326
          · replace hf := (if_neg c17).symm.trans hf
            refine lv_iload hx hb dX8_perform_307 (lv_at hl 7 rfl) ?_
            refine lv_if_eq (tgt := 325) hx hb dX8_perform_309 (by decide) (fun c19 => ?_) (fun c19 => ?_)
            · replace hf := (if_pos c19).symm.trans hf
              refine lv_iconst (v := 1) hx hb dX8_perform_325 (by decide) ?_
              obtain rfl := Option.some.inj hf
              exact gs_rz hC hW rfl g_n1 dX8_perform_326
            · replace hf := (if_neg c19).symm.trans hf
              refine lv_aload_n hx hb dX8_perform_312 rfl (lv_at hl 1 rfl) ?_
              refine gs_get hC hW in_X8 0 24 rfl rfl (by decide) fl_X8_50 rfl dX8_perform_313 ?_
              refine lv_aload_n hx hb dX8_perform_316 rfl (lv_at hl 1 rfl) ?_
              refine gs_get hC hW in_X8 0 20 rfl rfl (by decide) fl_X8_180 rfl dX8_perform_317 ?_
              refine lv_iconst (v := 1) hx hb dX8_perform_320 (by decide) ?_
              refine lv_isub hx hb dX8_perform_321 ?_
              refine lv_iload hx hb dX8_perform_322 (lv_at hl 6 rfl) ?_
              obtain ⟨s20, h20, hf⟩ := g_bnd hf
              refine gs_iast (ws' := w_X8_perform cI cZ cJ a_t a_t_parameters a_t_first a_t_anew a_t_table a_t_inputs a_t_at a_t_in a_t_back a_t_register a_t_output a_t_calls a_t_latest a_t_differ a_t_length a_t_newLength a_t_now a_t_met a_t_any a_t_number a_t_outAny a_t_out t_code t_own t_count t_tableSize t_given t_known t_news t_depth t_steps t_taken t_shown t_outcome t_parameters t_first t_anew t_table t_inputs s20 t_in t_back t_register t_output t_calls t_latest t_differ) hC hW 6 h20 rfl rfl dX8_perform_324 (fun H locs hW => ?_)
              refine lv_iconst (v := 1) hx hb dX8_perform_325 (by decide) ?_
              obtain rfl := Option.some.inj hf
              exact gs_rz hC hW rfl g_n1 dX8_perform_326
        · replace hf := (if_neg c16).symm.trans hf
          by_cases c21 : x3 = 9
          · replace hf := (if_pos c21).symm.trans hf
            refine lv_tableIn (off := 150) (tgt := 327) hx hb dX8_perform_177 (by rw [c21]; decide) (by rw [c21]; decide) (by rw [c21]; decide) (by decide) ?_
            refine lv_aload_n hx hb dX8_perform_327 rfl (lv_at hl 1 rfl) ?_
            refine lv_iload hx hb dX8_perform_328 (lv_at hl 7 rfl) ?_
            obtain ⟨o22, h22, hf⟩ := g_bnd hf
            refine gs_callVv (ws' := w_X8_perform cI cZ cJ a_t a_t_parameters a_t_first a_t_anew a_t_table a_t_inputs a_t_at a_t_in a_t_back a_t_register a_t_output a_t_calls a_t_latest a_t_differ a_t_length a_t_newLength a_t_now a_t_met a_t_any a_t_number a_t_outAny a_t_out t_code t_own t_count t_tableSize t_given t_known t_news o22.1 t_steps t_taken t_shown t_outcome t_parameters t_first t_anew t_table t_inputs s2 t_in t_back o22.2 t_output t_calls t_latest t_differ) hC hW (k_X8_giveBack l tA dC dI cI cZ cJ a_t a_t_back a_t_register a_t_parameters a_t_length a_t_newLength a_t_first a_t_now a_t_anew a_t_table a_t_inputs a_t_met a_t_any a_t_number a_t_outAny a_t_out a_t_at a_t_in a_t_output a_t_calls a_t_latest a_t_differ x6 t_code t_own t_count t_tableSize t_given t_known t_news t_depth t_steps t_taken t_shown t_outcome t_back t_register _ h22) yk_X8_giveBack lk_X8_195 iv_X8_giveBack ⟨rfl, rfl⟩ ⟨Nat.le_of_ble_eq_true rfl, Nat.le_of_ble_eq_true rfl⟩ hl.1 0 rfl rfl [0, 8, 9] [1, 2, 3, 4, 5, 6, 7, 10, 11, 12, 13] [11, 0, 1, 2, 3, 4, 5, 6, 12, 13, 7, 8, 9, 10] rfl rfl rfl rfl (by decide) rfl rfl rfl rfl (Nat.le_of_ble_eq_true rfl) dX8_perform_330 ⟨Nat.zero_le _, Nat.zero_le _⟩ (fun H locs hW => ?_)
            refine lv_iconst (v := 1) hx hb dX8_perform_333 (by decide) ?_
            obtain rfl := Option.some.inj hf
            exact gs_rz hC hW rfl g_n1 dX8_perform_334
          · replace hf := (if_neg c21).symm.trans hf
            by_cases c23 : x3 = 10
            · replace hf := (if_pos c23).symm.trans hf
              refine lv_tableIn (off := 158) (tgt := 335) hx hb dX8_perform_177 (by rw [c23]; decide) (by rw [c23]; decide) (by rw [c23]; decide) (by decide) ?_
              refine lv_aload_n hx hb dX8_perform_335 rfl (lv_at hl 1 rfl) ?_
              refine lv_iload_n hx hb dX8_perform_336 rfl (lv_at hl 2 rfl) ?_
              refine lv_iload hx hb dX8_perform_337 (lv_at hl 6 rfl) ?_
              refine lv_iload_n hx hb dX8_perform_339 rfl (lv_at hl 3 rfl) ?_
              obtain ⟨o24, h24, hf⟩ := g_bnd hf
              refine gs_callVi (ws' := w_X8_perform cI cZ cJ a_t a_t_parameters a_t_first a_t_anew a_t_table a_t_inputs a_t_at a_t_in a_t_back a_t_register a_t_output a_t_calls a_t_latest a_t_differ a_t_length a_t_newLength a_t_now a_t_met a_t_any a_t_number a_t_outAny a_t_out t_code t_own t_count t_tableSize t_given t_known t_news o24.2.1 t_steps t_taken t_shown t_outcome t_parameters t_first t_anew t_table t_inputs o24.2.2.1 o24.2.2.2.1 o24.2.2.2.2.1 o24.2.2.2.2.2.1 t_output o24.2.2.2.2.2.2.1 o24.2.2.2.2.2.2.2.1 o24.2.2.2.2.2.2.2.2) hC hW (k_X8_begin l tA dC dI cI cZ cJ a_t a_t_parameters a_t_first a_t_anew a_t_at a_t_in a_t_back a_t_register a_t_calls a_t_latest a_t_differ a_t_length a_t_newLength a_t_now a_t_table a_t_inputs a_t_met a_t_any a_t_number a_t_outAny a_t_out a_t_output N x1 x5 x2 t_code t_own t_count t_tableSize t_given t_known t_news t_depth t_steps t_taken t_shown t_outcome t_parameters t_first t_anew s2 t_in t_back t_register t_calls t_latest t_differ _ h24) yk_X8_begin lk_X8_199 iv_X8_begin ⟨rfl, rfl⟩ ⟨Nat.le_of_ble_eq_true rfl, Nat.le_of_ble_eq_true rfl⟩ hl.1 0 rfl rfl [0, 1, 2, 3, 6, 7, 8, 9, 11, 12, 13] [4, 5, 10] [3, 4, 5, 6, 0, 1, 7, 8, 9, 10, 2, 11, 12, 13] rfl rfl rfl rfl (by decide) rfl rfl rfl rfl (Nat.le_of_ble_eq_true rfl) dX8_perform_340 ⟨Nat.zero_le _, Nat.zero_le _⟩ (fun H locs hW => ?_)
              obtain ⟨v25, h25, hf⟩ := g_bnd hf
              obtain ⟨rfl, hn, -⟩ := g_zr_ok h25
              obtain rfl := Option.some.inj hf
              exact gs_rz hC hW rfl hn dX8_perform_343
            · replace hf := (if_neg c23).symm.trans hf
              by_cases c26 : x3 = 11
              · replace hf := (if_pos c26).symm.trans hf
                refine lv_tableIn (off := 167) (tgt := 344) hx hb dX8_perform_177 (by rw [c26]; decide) (by rw [c26]; decide) (by rw [c26]; decide) (by decide) ?_
                refine lv_aload_n hx hb dX8_perform_344 rfl (lv_at hl 1 rfl) ?_
                refine gs_get hC hW in_X8 0 9 rfl rfl (by decide) fl_X8_106 rfl dX8_perform_345 ?_
                refine lv_if_le (tgt := 368) hx hb dX8_perform_348 (by decide) (fun c27 => ?_) (fun c27 => ?_)
                · replace hf := (if_pos c27).symm.trans hf
                  refine lv_aload_n hx hb dX8_perform_368 rfl (lv_at hl 1 rfl) ?_
                  refine gs_get hC hW in_X8 0 27 rfl rfl (by decide) fl_X8_59 rfl dX8_perform_369 ?_
                  refine lv_iload hx hb dX8_perform_372 (lv_at hl 5 rfl) ?_
                  refine lv_iconst (v := 0) hx hb dX8_perform_374 (by decide) ?_
                  obtain ⟨s28, h28, hf⟩ := g_bnd hf
                  refine gs_iast (ws' := w_X8_perform cI cZ cJ a_t a_t_parameters a_t_first a_t_anew a_t_table a_t_inputs a_t_at a_t_in a_t_back a_t_register a_t_output a_t_calls a_t_latest a_t_differ a_t_length a_t_newLength a_t_now a_t_met a_t_any a_t_number a_t_outAny a_t_out t_code t_own t_count t_tableSize t_given t_known t_news t_depth t_steps t_taken t_shown t_outcome t_parameters t_first t_anew t_table t_inputs s2 t_in t_back s28 t_output t_calls t_latest t_differ) hC hW 9 h28 rfl rfl dX8_perform_375 (fun H locs hW => ?_)
                  refine lv_iconst (v := 1) hx hb dX8_perform_376 (by decide) ?_
                  obtain rfl := Option.some.inj hf
                  exact gs_rz hC hW rfl g_n1 dX8_perform_377
                · replace hf := (if_neg c27).symm.trans hf
                  refine lv_aload_n hx hb dX8_perform_351 rfl (lv_at hl 1 rfl) ?_
                  refine lv_iload_n hx hb dX8_perform_352 rfl (lv_at hl 2 rfl) ?_
                  refine lv_aload_n hx hb dX8_perform_353 rfl (lv_at hl 1 rfl) ?_
                  refine lv_aload_n hx hb dX8_perform_354 rfl (lv_at hl 1 rfl) ?_
                  refine lv_iload hx hb dX8_perform_355 (lv_at hl 6 rfl) ?_
                  obtain ⟨o29, h29, hf⟩ := g_bnd hf
                  refine gs_callVi (ws' := w_X8_perform cI cZ cJ a_t a_t_parameters a_t_first a_t_anew a_t_table a_t_inputs a_t_at a_t_in a_t_back a_t_register a_t_output a_t_calls a_t_latest a_t_differ a_t_length a_t_newLength a_t_now a_t_met a_t_any a_t_number a_t_outAny a_t_out t_code t_own t_count t_tableSize t_given t_known t_news t_depth t_steps t_taken t_shown t_outcome t_parameters t_first t_anew t_table t_inputs s2 t_in t_back t_register t_output t_calls t_latest t_differ) hC hW (k_X8_valueOf l tA dC dI cI cZ cJ a_t a_t_register a_t_parameters a_t_length a_t_newLength a_t_first a_t_now a_t_anew a_t_table a_t_inputs a_t_met a_t_any a_t_number a_t_outAny a_t_out a_t_at a_t_in a_t_back a_t_output a_t_calls a_t_latest a_t_differ x5 t_code t_own t_count t_tableSize t_given t_known t_news t_depth t_steps t_taken t_shown t_outcome t_register _ h29) yk_X8_valueOf lk_X8_183 iv_X8_valueOf ⟨rfl, rfl⟩ ⟨Nat.le_of_ble_eq_true rfl, Nat.le_of_ble_eq_true rfl⟩ hl.1 0 rfl rfl [0, 9] [1, 2, 3, 4, 5, 6, 7, 8, 10, 11, 12, 13] [12, 0, 1, 2, 3, 4, 5, 6, 7, 13, 8, 9, 10, 11] rfl rfl rfl rfl (by decide) rfl rfl rfl rfl (Nat.le_of_ble_eq_true rfl) dX8_perform_357 ⟨Nat.zero_le _, Nat.zero_le _⟩ (fun H locs hW => ?_)
                  obtain ⟨o30, h30, hf⟩ := g_bnd hf
                  refine gs_callVi (ws' := w_X8_perform cI cZ cJ a_t a_t_parameters a_t_first a_t_anew a_t_table a_t_inputs a_t_at a_t_in a_t_back a_t_register a_t_output a_t_calls a_t_latest a_t_differ a_t_length a_t_newLength a_t_now a_t_met a_t_any a_t_number a_t_outAny a_t_out t_code t_own t_count t_tableSize t_given t_known t_news t_depth t_steps t_taken t_shown t_outcome t_parameters t_first t_anew t_table t_inputs s2 t_in t_back t_register t_output t_calls t_latest t_differ) hC hW (k_X8_entry l tA dC dI cI cZ cJ a_t a_t_table a_t_parameters a_t_length a_t_newLength a_t_first a_t_now a_t_anew a_t_inputs a_t_met a_t_any a_t_number a_t_outAny a_t_out a_t_at a_t_in a_t_back a_t_register a_t_output a_t_calls a_t_latest a_t_differ o29 t_code t_own t_count t_tableSize t_given t_known t_news t_depth t_steps t_taken t_shown t_outcome t_table _ h30) yk_X8_entry lk_X8_134 iv_X8_entry ⟨rfl, rfl⟩ ⟨Nat.le_of_ble_eq_true rfl, Nat.le_of_ble_eq_true rfl⟩ hl.1 0 rfl rfl [0, 4] [1, 2, 3, 5, 6, 7, 8, 9, 10, 11, 12, 13] [12, 0, 1, 2, 13, 3, 4, 5, 6, 7, 8, 9, 10, 11] rfl rfl rfl rfl (by decide) rfl rfl rfl rfl (Nat.le_of_ble_eq_true rfl) dX8_perform_360 ⟨Nat.zero_le _, Nat.zero_le _⟩ (fun H locs hW => ?_)
                  refine lv_iload_n hx hb dX8_perform_363 rfl (lv_at hl 3 rfl) ?_
                  obtain ⟨o31, h31, hf⟩ := g_bnd hf
                  refine gs_callVi (ws' := w_X8_perform cI cZ cJ a_t a_t_parameters a_t_first a_t_anew a_t_table a_t_inputs a_t_at a_t_in a_t_back a_t_register a_t_output a_t_calls a_t_latest a_t_differ a_t_length a_t_newLength a_t_now a_t_met a_t_any a_t_number a_t_outAny a_t_out t_code t_own t_count t_tableSize t_given t_known t_news o31.2.1 t_steps t_taken t_shown t_outcome t_parameters t_first t_anew t_table t_inputs o31.2.2.1 o31.2.2.2.1 o31.2.2.2.2.1 o31.2.2.2.2.2.1 t_output o31.2.2.2.2.2.2.1 o31.2.2.2.2.2.2.2.1 o31.2.2.2.2.2.2.2.2) hC hW (k_X8_begin l tA dC dI cI cZ cJ a_t a_t_parameters a_t_first a_t_anew a_t_at a_t_in a_t_back a_t_register a_t_calls a_t_latest a_t_differ a_t_length a_t_newLength a_t_now a_t_table a_t_inputs a_t_met a_t_any a_t_number a_t_outAny a_t_out a_t_output N x1 o30 x2 t_code t_own t_count t_tableSize t_given t_known t_news t_depth t_steps t_taken t_shown t_outcome t_parameters t_first t_anew s2 t_in t_back t_register t_calls t_latest t_differ _ h31) yk_X8_begin lk_X8_199 iv_X8_begin ⟨rfl, rfl⟩ ⟨Nat.le_of_ble_eq_true rfl, Nat.le_of_ble_eq_true rfl⟩ hl.1 0 rfl rfl [0, 1, 2, 3, 6, 7, 8, 9, 11, 12, 13] [4, 5, 10] [3, 4, 5, 6, 0, 1, 7, 8, 9, 10, 2, 11, 12, 13] rfl rfl rfl rfl (by decide) rfl rfl rfl rfl (Nat.le_of_ble_eq_true rfl) dX8_perform_364 ⟨Nat.zero_le _, Nat.zero_le _⟩ (fun H locs hW => ?_)
                  obtain ⟨v32, h32, hf⟩ := g_bnd hf
                  obtain ⟨rfl, hn, -⟩ := g_zr_ok h32
                  obtain rfl := Option.some.inj hf
                  exact gs_rz hC hW rfl hn dX8_perform_367
              · replace hf := (if_neg c26).symm.trans hf
                by_cases c33 : x3 = 12
                · replace hf := (if_pos c33).symm.trans hf
                  refine lv_tableIn (off := 201) (tgt := 378) hx hb dX8_perform_177 (by rw [c33]; decide) (by rw [c33]; decide) (by rw [c33]; decide) (by decide) ?_
                  refine lv_iconst (v := 1) hx hb dX8_perform_378 (by decide) ?_
                  obtain rfl := Option.some.inj hf
                  exact gs_rz hC hW rfl g_n1 dX8_perform_379
                · replace hf := (if_neg c33).symm.trans hf
                  refine gs_tblD (n := 8) (tgt := 380) hx hb dX8_perform_177 (by decide) (by decide) (fun j hj h9 => ?_) ?_
                  · rcases (show j = 0 ∨ j = 1 ∨ j = 2 ∨ j = 3 ∨ j = 4 ∨ j = 5 ∨ j = 6 ∨ j = 7 by omega) with rfl | rfl | rfl | rfl | rfl | rfl | rfl | rfl
                    · exact absurd (g_ti (k := 5) h9 (by decide)) c3
                    · exact absurd (g_ti (k := 6) h9 (by decide)) c8
                    · exact absurd (g_ti (k := 7) h9 (by decide)) c11
                    · exact absurd (g_ti (k := 8) h9 (by decide)) c16
                    · exact absurd (g_ti (k := 9) h9 (by decide)) c21
                    · exact absurd (g_ti (k := 10) h9 (by decide)) c23
                    · exact absurd (g_ti (k := 11) h9 (by decide)) c26
                    · exact absurd (g_ti (k := 12) h9 (by decide)) c33
                  · refine lv_aload_n hx hb dX8_perform_380 rfl (lv_at hl 1 rfl) ?_
                    refine gs_get hC hW in_X8 0 27 rfl rfl (by decide) fl_X8_59 rfl dX8_perform_381 ?_
                    refine lv_iload hx hb dX8_perform_384 (lv_at hl 5 rfl) ?_
                    refine lv_iload_n hx hb dX8_perform_386 rfl (lv_at hl 4 rfl) ?_
                    refine lv_iload hx hb dX8_perform_387 (lv_at hl 7 rfl) ?_
                    refine lv_iload hx hb dX8_perform_389 (lv_at hl 0 rfl) ?_
                    obtain ⟨o34, h34, hf⟩ := g_bnd hf
                    refine gs_callSi (ws' := w_X8_perform cI cZ cJ a_t a_t_parameters a_t_first a_t_anew a_t_table a_t_inputs a_t_at a_t_in a_t_back a_t_register a_t_output a_t_calls a_t_latest a_t_differ a_t_length a_t_newLength a_t_now a_t_met a_t_any a_t_number a_t_outAny a_t_out t_code t_own t_count t_tableSize t_given t_known t_news t_depth t_steps t_taken t_shown t_outcome t_parameters t_first t_anew t_table t_inputs s2 t_in t_back t_register t_output t_calls t_latest t_differ) hC hW (k_X8_reckon l tA dC dI cI cZ cJ x3 x6 z0 _ h34) yk_X8_reckon lk_X8_137 is_X8_reckon ⟨rfl, rfl⟩ ⟨Nat.le_of_ble_eq_true rfl, Nat.le_of_ble_eq_true rfl⟩ hl.1 [] [0, 1, 2, 3, 4, 5, 6, 7, 8, 9, 10, 11, 12, 13] [0, 1, 2, 3, 4, 5, 6, 7, 8, 9, 10, 11, 12, 13] rfl rfl rfl rfl (by decide) rfl rfl rfl rfl (Nat.le_of_ble_eq_true rfl) dX8_perform_391 ⟨Nat.zero_le _, Nat.zero_le _⟩ (fun H locs hW => ?_)
                    obtain ⟨s35, h35, hf⟩ := g_bnd hf
                    refine gs_iast (ws' := w_X8_perform cI cZ cJ a_t a_t_parameters a_t_first a_t_anew a_t_table a_t_inputs a_t_at a_t_in a_t_back a_t_register a_t_output a_t_calls a_t_latest a_t_differ a_t_length a_t_newLength a_t_now a_t_met a_t_any a_t_number a_t_outAny a_t_out t_code t_own t_count t_tableSize t_given t_known t_news t_depth t_steps t_taken t_shown t_outcome t_parameters t_first t_anew t_table t_inputs s2 t_in t_back s35 t_output t_calls t_latest t_differ) hC hW 9 h35 rfl rfl dX8_perform_394 (fun H locs hW => ?_)
                    refine lv_iconst (v := 1) hx hb dX8_perform_395 (by decide) ?_
                    obtain rfl := Option.some.inj hf
                    exact gs_rz hC hW rfl g_n1 dX8_perform_396
def f_X8_perform_118 (N : Nat) (x1 : Int32) (x2 : Int32) (t_tableSize : Int32) (t_given : Int32) (t_parameters : Nat → Int32) (t_first : Nat → Int32) (t_anew : Nat → Int32) (t_table : Nat → Int32) (t_inputs : Nat → Int32) (x3 : Int32) (x4 : Int32) (x5 : Int32) (z0 : Int32) (t_depth : Int32) (t_taken : Int32) (t_shown : Int32) (t_at : Nat → Int32) (t_in : Nat → Int32) (t_back : Nat → Int32) (t_register : Nat → Int32) (t_output : Nat → Int32) (t_calls : Nat → Int32) (t_latest : Nat → Int32) (t_differ : Nat → Int32) : Option (Int32 × Int32 × Int32 × Int32 × (Nat → Int32) × (Nat → Int32) × (Nat → Int32) × (Nat → Int32) × (Nat → Int32) × (Nat → Int32) × (Nat → Int32) × (Nat → Int32)) := (f_X8_uses x3).bind (fun o36 => if o36 ≤ 1 then f_X8_perform_159 N x1 x2 t_tableSize t_given t_parameters t_first t_anew t_table t_inputs x3 x4 x5 z0 0 t_depth t_taken t_shown t_at t_in t_back t_register t_output t_calls t_latest t_differ else if x1 = 0 then (g_rd 576 t_first (x2 + 4)).bind (fun v39 => (f_X8_valueOf v39 t_depth t_register).bind (fun o40 => f_X8_perform_159 N x1 x2 t_tableSize t_given t_parameters t_first t_anew t_table t_inputs x3 x4 x5 z0 o40 t_depth t_taken t_shown t_at t_in t_back t_register t_output t_calls t_latest t_differ)) else (g_rd 1152 t_anew (x2 + 4)).bind (fun v41 => (f_X8_valueOf v41 t_depth t_register).bind (fun o42 => f_X8_perform_159 N x1 x2 t_tableSize t_given t_parameters t_first t_anew t_table t_inputs x3 x4 x5 z0 o42 t_depth t_taken t_shown t_at t_in t_back t_register t_output t_calls t_latest t_differ)))
set_option maxHeartbeats 4000000 in
set_option maxRecDepth 100000 in
theorem b_X8_perform_118 {p : Program} {l : Launch} {e : Env} {s : State} {m : MethodId} {args : Array Value} {below : List Frame} {meth : Method} {c : Code} {tA : Nat} {dC : Nat → ClassId} {dI : Nat → Nat → Nat} {cI cZ cJ : ClassId} {A : Nat → Prop} {a_t : Nat} {a_t_parameters : Nat} {a_t_first : Nat} {a_t_anew : Nat} {a_t_table : Nat} {a_t_inputs : Nat} {a_t_at : Nat} {a_t_in : Nat} {a_t_back : Nat} {a_t_register : Nat} {a_t_output : Nat} {a_t_calls : Nat} {a_t_latest : Nat} {a_t_differ : Nat} {a_t_length : Nat} {a_t_newLength : Nat} {a_t_now : Nat} {a_t_met : Nat} {a_t_any : Nat} {a_t_number : Nat} {a_t_outAny : Nat} {a_t_out : Nat} {x1 : Int32} {x2 : Int32} {t_tableSize : Int32} {t_given : Int32} {t_parameters : Nat → Int32} {t_first : Nat → Int32} {t_anew : Nat → Int32} {t_table : Nat → Int32} {t_inputs : Nat → Int32} {t_code : Int32} {t_own : Int32} {t_count : Int32} {t_known : Int32} {t_news : Int32} {t_steps : Int32} {t_outcome : Int32} {N : Nat} {x3 : Int32} {x4 : Int32} {x5 : Int32} {z0 : Int32} {t_depth : Int32} {t_taken : Int32} {t_shown : Int32} {t_at : Nat → Int32} {t_in : Nat → Int32} {t_back : Nat → Int32} {t_register : Nat → Int32} {t_output : Nat → Int32} {t_calls : Nat → Int32} {t_latest : Nat → Int32} {t_differ : Nat → Int32} {out : Int32 × Int32 × Int32 × Int32 × (Nat → Int32) × (Nat → Int32) × (Nat → Int32) × (Nat → Int32) × (Nat → Int32) × (Nat → Int32) × (Nat → Int32) × (Nat → Int32)} (hC : g_C p s m meth c args cX8_perform 8 (some .boolean) RX8) (hf : f_X8_perform_118 N x1 x2 t_tableSize t_given t_parameters t_first t_anew t_table t_inputs x3 x4 x5 z0 t_depth t_taken t_shown t_at t_in t_back t_register t_output t_calls t_latest t_differ = some out) {H : Heap} {locs : List Loc} {ls : Array Slot} (hW : g_W tA dC dI cI cZ cJ A s H locs (w_X8_perform cI cZ cJ a_t a_t_parameters a_t_first a_t_anew a_t_table a_t_inputs a_t_at a_t_in a_t_back a_t_register a_t_output a_t_calls a_t_latest a_t_differ a_t_length a_t_newLength a_t_now a_t_met a_t_any a_t_number a_t_outAny a_t_out t_code t_own t_count t_tableSize t_given t_known t_news t_depth t_steps t_taken t_shown t_outcome t_parameters t_first t_anew t_table t_inputs t_at t_in t_back t_register t_output t_calls t_latest t_differ)) (hl : lv_has ls 8 [(0, .ref a_t), (1, .int x1), (2, .int x2), (3, .int x3), (4, .int x4), (5, .int x5)]) : W p l e r_X8_perform s m args below meth c H locs 0 0 (MQ below (g_Qi dC dI cI cZ cJ A (w_X8_perform cI cZ cJ a_t a_t_parameters a_t_first a_t_anew a_t_table a_t_inputs a_t_at a_t_in a_t_back a_t_register a_t_output a_t_calls a_t_latest a_t_differ a_t_length a_t_newLength a_t_now a_t_met a_t_any a_t_number a_t_outAny a_t_out t_code t_own t_count t_tableSize t_given t_known t_news out.2.1 t_steps out.2.2.1 out.2.2.2.1 t_outcome t_parameters t_first t_anew t_table t_inputs out.2.2.2.2.1 out.2.2.2.2.2.1 out.2.2.2.2.2.2.1 out.2.2.2.2.2.2.2.1 out.2.2.2.2.2.2.2.2.1 out.2.2.2.2.2.2.2.2.2.1 out.2.2.2.2.2.2.2.2.2.2.1 out.2.2.2.2.2.2.2.2.2.2.2) out.1) args s 0 0 A) (F0 m 118 ls [.int z0]) := by
  have hx := hC.1
  have hb := hC.2.1
  have hown := hC.2.2.2.2.1
  have hts := hC.2.2.2.2.2.1
  unfold f_X8_perform_118 at hf
  refine lv_istore (lv' := [(6, .int z0), (0, .ref a_t), (1, .int x1), (2, .int x2), (3, .int x3), (4, .int x4), (5, .int x5)]) hx hb dX8_perform_118 hl (by decide) rfl (fun ls hl => ?_)
  refine lv_iload_n hx hb dX8_perform_120 rfl (lv_at hl 4 rfl) ?_
  obtain ⟨o36, h36, hf⟩ := g_bnd hf
  refine gs_callSi (ws' := w_X8_perform cI cZ cJ a_t a_t_parameters a_t_first a_t_anew a_t_table a_t_inputs a_t_at a_t_in a_t_back a_t_register a_t_output a_t_calls a_t_latest a_t_differ a_t_length a_t_newLength a_t_now a_t_met a_t_any a_t_number a_t_outAny a_t_out t_code t_own t_count t_tableSize t_given t_known t_news t_depth t_steps t_taken t_shown t_outcome t_parameters t_first t_anew t_table t_inputs t_at t_in t_back t_register t_output t_calls t_latest t_differ) hC hW (k_X8_uses l tA dC dI cI cZ cJ x3 _ h36) yk_X8_uses lk_X8_91 is_X8_uses ⟨rfl, rfl⟩ ⟨Nat.le_of_ble_eq_true rfl, Nat.le_of_ble_eq_true rfl⟩ hl.1 [] [0, 1, 2, 3, 4, 5, 6, 7, 8, 9, 10, 11, 12, 13] [0, 1, 2, 3, 4, 5, 6, 7, 8, 9, 10, 11, 12, 13] rfl rfl rfl rfl (by decide) rfl rfl rfl rfl (Nat.le_of_ble_eq_true rfl) dX8_perform_121 ⟨Nat.zero_le _, Nat.zero_le _⟩ (fun H locs hW => ?_)
  refine lv_iconst (v := 1) hx hb dX8_perform_124 (by decide) ?_
  refine lv_icmp_le (tgt := 158) hx hb dX8_perform_125 (by decide) (fun c37 => ?_) (fun c37 => ?_)
  · replace hf := (if_pos c37).symm.trans hf
    refine lv_iconst (v := 0) hx hb dX8_perform_158 (by decide) ?_
    exact b_X8_perform_159 hC hf hW (lv_sub hl [1, 2, 3, 4, 5, 6, 0] rfl)
  · replace hf := (if_neg c37).symm.trans hf
    refine lv_aload_n hx hb dX8_perform_128 rfl (lv_at hl 1 rfl) ?_
    refine lv_iload_n hx hb dX8_perform_129 rfl (lv_at hl 2 rfl) ?_
    refine lv_if_eq (tgt := 144) hx hb dX8_perform_130 (by decide) (fun c38 => ?_) (fun c38 => ?_)
    · replace hf := (if_pos c38).symm.trans hf
      refine lv_aload_n hx hb dX8_perform_144 rfl (lv_at hl 1 rfl) ?_
      refine gs_get hC hW in_X8 0 6 rfl rfl (by decide) fl_X8_19 rfl dX8_perform_145 ?_
      refine lv_iload_n hx hb dX8_perform_148 rfl (lv_at hl 3 rfl) ?_
      refine lv_iconst (v := 4) hx hb dX8_perform_149 (by decide) ?_
      refine lv_iadd hx hb dX8_perform_150 ?_
      obtain ⟨v39, h39, hf⟩ := g_bnd hf
      refine gs_iald hC hW 2 h39 rfl dX8_perform_151 ?_
      obtain ⟨o40, h40, hf⟩ := g_bnd hf
      refine gs_callVi (ws' := w_X8_perform cI cZ cJ a_t a_t_parameters a_t_first a_t_anew a_t_table a_t_inputs a_t_at a_t_in a_t_back a_t_register a_t_output a_t_calls a_t_latest a_t_differ a_t_length a_t_newLength a_t_now a_t_met a_t_any a_t_number a_t_outAny a_t_out t_code t_own t_count t_tableSize t_given t_known t_news t_depth t_steps t_taken t_shown t_outcome t_parameters t_first t_anew t_table t_inputs t_at t_in t_back t_register t_output t_calls t_latest t_differ) hC hW (k_X8_valueOf l tA dC dI cI cZ cJ a_t a_t_register a_t_parameters a_t_length a_t_newLength a_t_first a_t_now a_t_anew a_t_table a_t_inputs a_t_met a_t_any a_t_number a_t_outAny a_t_out a_t_at a_t_in a_t_back a_t_output a_t_calls a_t_latest a_t_differ v39 t_code t_own t_count t_tableSize t_given t_known t_news t_depth t_steps t_taken t_shown t_outcome t_register _ h40) yk_X8_valueOf lk_X8_183 iv_X8_valueOf ⟨rfl, rfl⟩ ⟨Nat.le_of_ble_eq_true rfl, Nat.le_of_ble_eq_true rfl⟩ hl.1 0 rfl rfl [0, 9] [1, 2, 3, 4, 5, 6, 7, 8, 10, 11, 12, 13] [12, 0, 1, 2, 3, 4, 5, 6, 7, 13, 8, 9, 10, 11] rfl rfl rfl rfl (by decide) rfl rfl rfl rfl (Nat.le_of_ble_eq_true rfl) dX8_perform_152 ⟨Nat.zero_le _, Nat.zero_le _⟩ (fun H locs hW => ?_)
      refine lv_goto (tgt := 159) hx hb dX8_perform_155 (by decide) ?_
      exact b_X8_perform_159 hC hf hW (lv_sub hl [1, 2, 3, 4, 5, 6, 0] rfl)
    · replace hf := (if_neg c38).symm.trans hf
      refine lv_aload_n hx hb dX8_perform_133 rfl (lv_at hl 1 rfl) ?_
      refine gs_get hC hW in_X8 0 8 rfl rfl (by decide) fl_X8_25 rfl dX8_perform_134 ?_
      refine lv_iload_n hx hb dX8_perform_137 rfl (lv_at hl 3 rfl) ?_
      refine lv_iconst (v := 4) hx hb dX8_perform_138 (by decide) ?_
      refine lv_iadd hx hb dX8_perform_139 ?_
      obtain ⟨v41, h41, hf⟩ := g_bnd hf
      refine gs_iald hC hW 3 h41 rfl dX8_perform_140 ?_
      refine lv_goto (tgt := 152) hx hb dX8_perform_141 (by decide) ?_
      obtain ⟨o42, h42, hf⟩ := g_bnd hf
      refine gs_callVi (ws' := w_X8_perform cI cZ cJ a_t a_t_parameters a_t_first a_t_anew a_t_table a_t_inputs a_t_at a_t_in a_t_back a_t_register a_t_output a_t_calls a_t_latest a_t_differ a_t_length a_t_newLength a_t_now a_t_met a_t_any a_t_number a_t_outAny a_t_out t_code t_own t_count t_tableSize t_given t_known t_news t_depth t_steps t_taken t_shown t_outcome t_parameters t_first t_anew t_table t_inputs t_at t_in t_back t_register t_output t_calls t_latest t_differ) hC hW (k_X8_valueOf l tA dC dI cI cZ cJ a_t a_t_register a_t_parameters a_t_length a_t_newLength a_t_first a_t_now a_t_anew a_t_table a_t_inputs a_t_met a_t_any a_t_number a_t_outAny a_t_out a_t_at a_t_in a_t_back a_t_output a_t_calls a_t_latest a_t_differ v41 t_code t_own t_count t_tableSize t_given t_known t_news t_depth t_steps t_taken t_shown t_outcome t_register _ h42) yk_X8_valueOf lk_X8_183 iv_X8_valueOf ⟨rfl, rfl⟩ ⟨Nat.le_of_ble_eq_true rfl, Nat.le_of_ble_eq_true rfl⟩ hl.1 0 rfl rfl [0, 9] [1, 2, 3, 4, 5, 6, 7, 8, 10, 11, 12, 13] [12, 0, 1, 2, 3, 4, 5, 6, 7, 13, 8, 9, 10, 11] rfl rfl rfl rfl (by decide) rfl rfl rfl rfl (Nat.le_of_ble_eq_true rfl) dX8_perform_152 ⟨Nat.zero_le _, Nat.zero_le _⟩ (fun H locs hW => ?_)
      refine lv_goto (tgt := 159) hx hb dX8_perform_155 (by decide) ?_
      exact b_X8_perform_159 hC hf hW (lv_sub hl [1, 2, 3, 4, 5, 6, 0] rfl)
def f_X8_perform_78 (N : Nat) (x1 : Int32) (x2 : Int32) (t_tableSize : Int32) (t_given : Int32) (t_parameters : Nat → Int32) (t_first : Nat → Int32) (t_anew : Nat → Int32) (t_table : Nat → Int32) (t_inputs : Nat → Int32) (x3 : Int32) (x4 : Int32) (z0 : Int32) (t_depth : Int32) (t_taken : Int32) (t_shown : Int32) (t_at : Nat → Int32) (t_in : Nat → Int32) (t_back : Nat → Int32) (t_register : Nat → Int32) (t_output : Nat → Int32) (t_calls : Nat → Int32) (t_latest : Nat → Int32) (t_differ : Nat → Int32) : Option (Int32 × Int32 × Int32 × Int32 × (Nat → Int32) × (Nat → Int32) × (Nat → Int32) × (Nat → Int32) × (Nat → Int32) × (Nat → Int32) × (Nat → Int32) × (Nat → Int32)) := (f_X8_uses x3).bind (fun o43 => if o43 ≤ 0 then f_X8_perform_118 N x1 x2 t_tableSize t_given t_parameters t_first t_anew t_table t_inputs x3 x4 z0 0 t_depth t_taken t_shown t_at t_in t_back t_register t_output t_calls t_latest t_differ else if x1 = 0 then (g_rd 576 t_first (x2 + 3)).bind (fun v46 => (f_X8_valueOf v46 t_depth t_register).bind (fun o47 => f_X8_perform_118 N x1 x2 t_tableSize t_given t_parameters t_first t_anew t_table t_inputs x3 x4 z0 o47 t_depth t_taken t_shown t_at t_in t_back t_register t_output t_calls t_latest t_differ)) else (g_rd 1152 t_anew (x2 + 3)).bind (fun v48 => (f_X8_valueOf v48 t_depth t_register).bind (fun o49 => f_X8_perform_118 N x1 x2 t_tableSize t_given t_parameters t_first t_anew t_table t_inputs x3 x4 z0 o49 t_depth t_taken t_shown t_at t_in t_back t_register t_output t_calls t_latest t_differ)))
set_option maxHeartbeats 4000000 in
set_option maxRecDepth 100000 in
theorem b_X8_perform_78 {p : Program} {l : Launch} {e : Env} {s : State} {m : MethodId} {args : Array Value} {below : List Frame} {meth : Method} {c : Code} {tA : Nat} {dC : Nat → ClassId} {dI : Nat → Nat → Nat} {cI cZ cJ : ClassId} {A : Nat → Prop} {a_t : Nat} {a_t_parameters : Nat} {a_t_first : Nat} {a_t_anew : Nat} {a_t_table : Nat} {a_t_inputs : Nat} {a_t_at : Nat} {a_t_in : Nat} {a_t_back : Nat} {a_t_register : Nat} {a_t_output : Nat} {a_t_calls : Nat} {a_t_latest : Nat} {a_t_differ : Nat} {a_t_length : Nat} {a_t_newLength : Nat} {a_t_now : Nat} {a_t_met : Nat} {a_t_any : Nat} {a_t_number : Nat} {a_t_outAny : Nat} {a_t_out : Nat} {x1 : Int32} {x2 : Int32} {t_tableSize : Int32} {t_given : Int32} {t_parameters : Nat → Int32} {t_first : Nat → Int32} {t_anew : Nat → Int32} {t_table : Nat → Int32} {t_inputs : Nat → Int32} {t_code : Int32} {t_own : Int32} {t_count : Int32} {t_known : Int32} {t_news : Int32} {t_steps : Int32} {t_outcome : Int32} {N : Nat} {x3 : Int32} {x4 : Int32} {z0 : Int32} {t_depth : Int32} {t_taken : Int32} {t_shown : Int32} {t_at : Nat → Int32} {t_in : Nat → Int32} {t_back : Nat → Int32} {t_register : Nat → Int32} {t_output : Nat → Int32} {t_calls : Nat → Int32} {t_latest : Nat → Int32} {t_differ : Nat → Int32} {out : Int32 × Int32 × Int32 × Int32 × (Nat → Int32) × (Nat → Int32) × (Nat → Int32) × (Nat → Int32) × (Nat → Int32) × (Nat → Int32) × (Nat → Int32) × (Nat → Int32)} (hC : g_C p s m meth c args cX8_perform 8 (some .boolean) RX8) (hf : f_X8_perform_78 N x1 x2 t_tableSize t_given t_parameters t_first t_anew t_table t_inputs x3 x4 z0 t_depth t_taken t_shown t_at t_in t_back t_register t_output t_calls t_latest t_differ = some out) {H : Heap} {locs : List Loc} {ls : Array Slot} (hW : g_W tA dC dI cI cZ cJ A s H locs (w_X8_perform cI cZ cJ a_t a_t_parameters a_t_first a_t_anew a_t_table a_t_inputs a_t_at a_t_in a_t_back a_t_register a_t_output a_t_calls a_t_latest a_t_differ a_t_length a_t_newLength a_t_now a_t_met a_t_any a_t_number a_t_outAny a_t_out t_code t_own t_count t_tableSize t_given t_known t_news t_depth t_steps t_taken t_shown t_outcome t_parameters t_first t_anew t_table t_inputs t_at t_in t_back t_register t_output t_calls t_latest t_differ)) (hl : lv_has ls 8 [(0, .ref a_t), (1, .int x1), (2, .int x2), (3, .int x3), (4, .int x4)]) : W p l e r_X8_perform s m args below meth c H locs 0 0 (MQ below (g_Qi dC dI cI cZ cJ A (w_X8_perform cI cZ cJ a_t a_t_parameters a_t_first a_t_anew a_t_table a_t_inputs a_t_at a_t_in a_t_back a_t_register a_t_output a_t_calls a_t_latest a_t_differ a_t_length a_t_newLength a_t_now a_t_met a_t_any a_t_number a_t_outAny a_t_out t_code t_own t_count t_tableSize t_given t_known t_news out.2.1 t_steps out.2.2.1 out.2.2.2.1 t_outcome t_parameters t_first t_anew t_table t_inputs out.2.2.2.2.1 out.2.2.2.2.2.1 out.2.2.2.2.2.2.1 out.2.2.2.2.2.2.2.1 out.2.2.2.2.2.2.2.2.1 out.2.2.2.2.2.2.2.2.2.1 out.2.2.2.2.2.2.2.2.2.2.1 out.2.2.2.2.2.2.2.2.2.2.2) out.1) args s 0 0 A) (F0 m 78 ls [.int z0]) := by
  have hx := hC.1
  have hb := hC.2.1
  have hown := hC.2.2.2.2.1
  have hts := hC.2.2.2.2.2.1
  unfold f_X8_perform_78 at hf
  refine lv_istore (lv' := [(5, .int z0), (0, .ref a_t), (1, .int x1), (2, .int x2), (3, .int x3), (4, .int x4)]) hx hb dX8_perform_78 hl (by decide) rfl (fun ls hl => ?_)
  refine lv_iload_n hx hb dX8_perform_80 rfl (lv_at hl 4 rfl) ?_
  obtain ⟨o43, h43, hf⟩ := g_bnd hf
  refine gs_callSi (ws' := w_X8_perform cI cZ cJ a_t a_t_parameters a_t_first a_t_anew a_t_table a_t_inputs a_t_at a_t_in a_t_back a_t_register a_t_output a_t_calls a_t_latest a_t_differ a_t_length a_t_newLength a_t_now a_t_met a_t_any a_t_number a_t_outAny a_t_out t_code t_own t_count t_tableSize t_given t_known t_news t_depth t_steps t_taken t_shown t_outcome t_parameters t_first t_anew t_table t_inputs t_at t_in t_back t_register t_output t_calls t_latest t_differ) hC hW (k_X8_uses l tA dC dI cI cZ cJ x3 _ h43) yk_X8_uses lk_X8_91 is_X8_uses ⟨rfl, rfl⟩ ⟨Nat.le_of_ble_eq_true rfl, Nat.le_of_ble_eq_true rfl⟩ hl.1 [] [0, 1, 2, 3, 4, 5, 6, 7, 8, 9, 10, 11, 12, 13] [0, 1, 2, 3, 4, 5, 6, 7, 8, 9, 10, 11, 12, 13] rfl rfl rfl rfl (by decide) rfl rfl rfl rfl (Nat.le_of_ble_eq_true rfl) dX8_perform_81 ⟨Nat.zero_le _, Nat.zero_le _⟩ (fun H locs hW => ?_)
  refine lv_if_le (tgt := 117) hx hb dX8_perform_84 (by decide) (fun c44 => ?_) (fun c44 => ?_)
  · replace hf := (if_pos c44).symm.trans hf
    refine lv_iconst (v := 0) hx hb dX8_perform_117 (by decide) ?_
    exact b_X8_perform_118 hC hf hW (lv_sub hl [1, 2, 3, 4, 5, 0] rfl)
  · replace hf := (if_neg c44).symm.trans hf
    refine lv_aload_n hx hb dX8_perform_87 rfl (lv_at hl 1 rfl) ?_
    refine lv_iload_n hx hb dX8_perform_88 rfl (lv_at hl 2 rfl) ?_
    refine lv_if_eq (tgt := 103) hx hb dX8_perform_89 (by decide) (fun c45 => ?_) (fun c45 => ?_)
    · replace hf := (if_pos c45).symm.trans hf
      refine lv_aload_n hx hb dX8_perform_103 rfl (lv_at hl 1 rfl) ?_
      refine gs_get hC hW in_X8 0 6 rfl rfl (by decide) fl_X8_19 rfl dX8_perform_104 ?_
      refine lv_iload_n hx hb dX8_perform_107 rfl (lv_at hl 3 rfl) ?_
      refine lv_iconst (v := 3) hx hb dX8_perform_108 (by decide) ?_
      refine lv_iadd hx hb dX8_perform_109 ?_
      obtain ⟨v46, h46, hf⟩ := g_bnd hf
      refine gs_iald hC hW 2 h46 rfl dX8_perform_110 ?_
      obtain ⟨o47, h47, hf⟩ := g_bnd hf
      refine gs_callVi (ws' := w_X8_perform cI cZ cJ a_t a_t_parameters a_t_first a_t_anew a_t_table a_t_inputs a_t_at a_t_in a_t_back a_t_register a_t_output a_t_calls a_t_latest a_t_differ a_t_length a_t_newLength a_t_now a_t_met a_t_any a_t_number a_t_outAny a_t_out t_code t_own t_count t_tableSize t_given t_known t_news t_depth t_steps t_taken t_shown t_outcome t_parameters t_first t_anew t_table t_inputs t_at t_in t_back t_register t_output t_calls t_latest t_differ) hC hW (k_X8_valueOf l tA dC dI cI cZ cJ a_t a_t_register a_t_parameters a_t_length a_t_newLength a_t_first a_t_now a_t_anew a_t_table a_t_inputs a_t_met a_t_any a_t_number a_t_outAny a_t_out a_t_at a_t_in a_t_back a_t_output a_t_calls a_t_latest a_t_differ v46 t_code t_own t_count t_tableSize t_given t_known t_news t_depth t_steps t_taken t_shown t_outcome t_register _ h47) yk_X8_valueOf lk_X8_183 iv_X8_valueOf ⟨rfl, rfl⟩ ⟨Nat.le_of_ble_eq_true rfl, Nat.le_of_ble_eq_true rfl⟩ hl.1 0 rfl rfl [0, 9] [1, 2, 3, 4, 5, 6, 7, 8, 10, 11, 12, 13] [12, 0, 1, 2, 3, 4, 5, 6, 7, 13, 8, 9, 10, 11] rfl rfl rfl rfl (by decide) rfl rfl rfl rfl (Nat.le_of_ble_eq_true rfl) dX8_perform_111 ⟨Nat.zero_le _, Nat.zero_le _⟩ (fun H locs hW => ?_)
      refine lv_goto (tgt := 118) hx hb dX8_perform_114 (by decide) ?_
      exact b_X8_perform_118 hC hf hW (lv_sub hl [1, 2, 3, 4, 5, 0] rfl)
    · replace hf := (if_neg c45).symm.trans hf
      refine lv_aload_n hx hb dX8_perform_92 rfl (lv_at hl 1 rfl) ?_
      refine gs_get hC hW in_X8 0 8 rfl rfl (by decide) fl_X8_25 rfl dX8_perform_93 ?_
      refine lv_iload_n hx hb dX8_perform_96 rfl (lv_at hl 3 rfl) ?_
      refine lv_iconst (v := 3) hx hb dX8_perform_97 (by decide) ?_
      refine lv_iadd hx hb dX8_perform_98 ?_
      obtain ⟨v48, h48, hf⟩ := g_bnd hf
      refine gs_iald hC hW 3 h48 rfl dX8_perform_99 ?_
      refine lv_goto (tgt := 111) hx hb dX8_perform_100 (by decide) ?_
      obtain ⟨o49, h49, hf⟩ := g_bnd hf
      refine gs_callVi (ws' := w_X8_perform cI cZ cJ a_t a_t_parameters a_t_first a_t_anew a_t_table a_t_inputs a_t_at a_t_in a_t_back a_t_register a_t_output a_t_calls a_t_latest a_t_differ a_t_length a_t_newLength a_t_now a_t_met a_t_any a_t_number a_t_outAny a_t_out t_code t_own t_count t_tableSize t_given t_known t_news t_depth t_steps t_taken t_shown t_outcome t_parameters t_first t_anew t_table t_inputs t_at t_in t_back t_register t_output t_calls t_latest t_differ) hC hW (k_X8_valueOf l tA dC dI cI cZ cJ a_t a_t_register a_t_parameters a_t_length a_t_newLength a_t_first a_t_now a_t_anew a_t_table a_t_inputs a_t_met a_t_any a_t_number a_t_outAny a_t_out a_t_at a_t_in a_t_back a_t_output a_t_calls a_t_latest a_t_differ v48 t_code t_own t_count t_tableSize t_given t_known t_news t_depth t_steps t_taken t_shown t_outcome t_register _ h49) yk_X8_valueOf lk_X8_183 iv_X8_valueOf ⟨rfl, rfl⟩ ⟨Nat.le_of_ble_eq_true rfl, Nat.le_of_ble_eq_true rfl⟩ hl.1 0 rfl rfl [0, 9] [1, 2, 3, 4, 5, 6, 7, 8, 10, 11, 12, 13] [12, 0, 1, 2, 3, 4, 5, 6, 7, 13, 8, 9, 10, 11] rfl rfl rfl rfl (by decide) rfl rfl rfl rfl (Nat.le_of_ble_eq_true rfl) dX8_perform_111 ⟨Nat.zero_le _, Nat.zero_le _⟩ (fun H locs hW => ?_)
      refine lv_goto (tgt := 118) hx hb dX8_perform_114 (by decide) ?_
      exact b_X8_perform_118 hC hf hW (lv_sub hl [1, 2, 3, 4, 5, 0] rfl)
def f_X8_perform_52 (N : Nat) (x1 : Int32) (x2 : Int32) (t_tableSize : Int32) (t_given : Int32) (t_parameters : Nat → Int32) (t_first : Nat → Int32) (t_anew : Nat → Int32) (t_table : Nat → Int32) (t_inputs : Nat → Int32) (x3 : Int32) (z0 : Int32) (z1 : Int32) (t_depth : Int32) (t_taken : Int32) (t_shown : Int32) (t_at : Nat → Int32) (t_in : Nat → Int32) (t_back : Nat → Int32) (t_register : Nat → Int32) (t_output : Nat → Int32) (t_calls : Nat → Int32) (t_latest : Nat → Int32) (t_differ : Nat → Int32) : Option (Int32 × Int32 × Int32 × Int32 × (Nat → Int32) × (Nat → Int32) × (Nat → Int32) × (Nat → Int32) × (Nat → Int32) × (Nat → Int32) × (Nat → Int32) × (Nat → Int32)) := if x1 = 0 then (g_rd 576 t_first (x2 + 2)).bind (fun v51 => f_X8_perform_78 N x1 x2 t_tableSize t_given t_parameters t_first t_anew t_table t_inputs x3 (z1 + z0) v51 t_depth t_taken t_shown t_at t_in t_back t_register t_output t_calls t_latest t_differ) else (g_rd 1152 t_anew (x2 + 2)).bind (fun v52 => f_X8_perform_78 N x1 x2 t_tableSize t_given t_parameters t_first t_anew t_table t_inputs x3 (z1 + z0) v52 t_depth t_taken t_shown t_at t_in t_back t_register t_output t_calls t_latest t_differ)
set_option maxHeartbeats 4000000 in
set_option maxRecDepth 100000 in
theorem b_X8_perform_52 {p : Program} {l : Launch} {e : Env} {s : State} {m : MethodId} {args : Array Value} {below : List Frame} {meth : Method} {c : Code} {tA : Nat} {dC : Nat → ClassId} {dI : Nat → Nat → Nat} {cI cZ cJ : ClassId} {A : Nat → Prop} {a_t : Nat} {a_t_parameters : Nat} {a_t_first : Nat} {a_t_anew : Nat} {a_t_table : Nat} {a_t_inputs : Nat} {a_t_at : Nat} {a_t_in : Nat} {a_t_back : Nat} {a_t_register : Nat} {a_t_output : Nat} {a_t_calls : Nat} {a_t_latest : Nat} {a_t_differ : Nat} {a_t_length : Nat} {a_t_newLength : Nat} {a_t_now : Nat} {a_t_met : Nat} {a_t_any : Nat} {a_t_number : Nat} {a_t_outAny : Nat} {a_t_out : Nat} {x1 : Int32} {x2 : Int32} {t_tableSize : Int32} {t_given : Int32} {t_parameters : Nat → Int32} {t_first : Nat → Int32} {t_anew : Nat → Int32} {t_table : Nat → Int32} {t_inputs : Nat → Int32} {t_code : Int32} {t_own : Int32} {t_count : Int32} {t_known : Int32} {t_news : Int32} {t_steps : Int32} {t_outcome : Int32} {N : Nat} {x3 : Int32} {z0 : Int32} {z1 : Int32} {t_depth : Int32} {t_taken : Int32} {t_shown : Int32} {t_at : Nat → Int32} {t_in : Nat → Int32} {t_back : Nat → Int32} {t_register : Nat → Int32} {t_output : Nat → Int32} {t_calls : Nat → Int32} {t_latest : Nat → Int32} {t_differ : Nat → Int32} {out : Int32 × Int32 × Int32 × Int32 × (Nat → Int32) × (Nat → Int32) × (Nat → Int32) × (Nat → Int32) × (Nat → Int32) × (Nat → Int32) × (Nat → Int32) × (Nat → Int32)} (hC : g_C p s m meth c args cX8_perform 8 (some .boolean) RX8) (hf : f_X8_perform_52 N x1 x2 t_tableSize t_given t_parameters t_first t_anew t_table t_inputs x3 z0 z1 t_depth t_taken t_shown t_at t_in t_back t_register t_output t_calls t_latest t_differ = some out) {H : Heap} {locs : List Loc} {ls : Array Slot} (hW : g_W tA dC dI cI cZ cJ A s H locs (w_X8_perform cI cZ cJ a_t a_t_parameters a_t_first a_t_anew a_t_table a_t_inputs a_t_at a_t_in a_t_back a_t_register a_t_output a_t_calls a_t_latest a_t_differ a_t_length a_t_newLength a_t_now a_t_met a_t_any a_t_number a_t_outAny a_t_out t_code t_own t_count t_tableSize t_given t_known t_news t_depth t_steps t_taken t_shown t_outcome t_parameters t_first t_anew t_table t_inputs t_at t_in t_back t_register t_output t_calls t_latest t_differ)) (hl : lv_has ls 8 [(0, .ref a_t), (1, .int x1), (2, .int x2), (3, .int x3)]) : W p l e r_X8_perform s m args below meth c H locs 0 0 (MQ below (g_Qi dC dI cI cZ cJ A (w_X8_perform cI cZ cJ a_t a_t_parameters a_t_first a_t_anew a_t_table a_t_inputs a_t_at a_t_in a_t_back a_t_register a_t_output a_t_calls a_t_latest a_t_differ a_t_length a_t_newLength a_t_now a_t_met a_t_any a_t_number a_t_outAny a_t_out t_code t_own t_count t_tableSize t_given t_known t_news out.2.1 t_steps out.2.2.1 out.2.2.2.1 t_outcome t_parameters t_first t_anew t_table t_inputs out.2.2.2.2.1 out.2.2.2.2.2.1 out.2.2.2.2.2.2.1 out.2.2.2.2.2.2.2.1 out.2.2.2.2.2.2.2.2.1 out.2.2.2.2.2.2.2.2.2.1 out.2.2.2.2.2.2.2.2.2.2.1 out.2.2.2.2.2.2.2.2.2.2.2) out.1) args s 0 0 A) (F0 m 52 ls [.int z0, .int z1]) := by
  have hx := hC.1
  have hb := hC.2.1
  have hown := hC.2.2.2.2.1
  have hts := hC.2.2.2.2.2.1
  unfold f_X8_perform_52 at hf
  refine lv_iadd hx hb dX8_perform_52 ?_
  refine lv_istore (lv' := [(4, .int (z1 + z0)), (0, .ref a_t), (1, .int x1), (2, .int x2), (3, .int x3)]) hx hb dX8_perform_53 hl (by decide) rfl (fun ls hl => ?_)
  refine lv_iload_n hx hb dX8_perform_55 rfl (lv_at hl 2 rfl) ?_
  refine lv_if_eq (tgt := 70) hx hb dX8_perform_56 (by decide) (fun c50 => ?_) (fun c50 => ?_)
  · replace hf := (if_pos c50).symm.trans hf
    refine lv_aload_n hx hb dX8_perform_70 rfl (lv_at hl 1 rfl) ?_
    refine gs_get hC hW in_X8 0 6 rfl rfl (by decide) fl_X8_19 rfl dX8_perform_71 ?_
    refine lv_iload_n hx hb dX8_perform_74 rfl (lv_at hl 3 rfl) ?_
    refine lv_iconst (v := 2) hx hb dX8_perform_75 (by decide) ?_
    refine lv_iadd hx hb dX8_perform_76 ?_
    obtain ⟨v51, h51, hf⟩ := g_bnd hf
    refine gs_iald hC hW 2 h51 rfl dX8_perform_77 ?_
    exact b_X8_perform_78 hC hf hW (lv_sub hl [1, 2, 3, 4, 0] rfl)
  · replace hf := (if_neg c50).symm.trans hf
    refine lv_aload_n hx hb dX8_perform_59 rfl (lv_at hl 1 rfl) ?_
    refine gs_get hC hW in_X8 0 8 rfl rfl (by decide) fl_X8_25 rfl dX8_perform_60 ?_
    refine lv_iload_n hx hb dX8_perform_63 rfl (lv_at hl 3 rfl) ?_
    refine lv_iconst (v := 2) hx hb dX8_perform_64 (by decide) ?_
    refine lv_iadd hx hb dX8_perform_65 ?_
    obtain ⟨v52, h52, hf⟩ := g_bnd hf
    refine gs_iald hC hW 3 h52 rfl dX8_perform_66 ?_
    refine lv_goto (tgt := 78) hx hb dX8_perform_67 (by decide) ?_
    exact b_X8_perform_78 hC hf hW (lv_sub hl [1, 2, 3, 4, 0] rfl)
def f_X8_perform_19 (N : Nat) (x1 : Int32) (x2 : Int32) (t_tableSize : Int32) (t_given : Int32) (t_parameters : Nat → Int32) (t_first : Nat → Int32) (t_anew : Nat → Int32) (t_table : Nat → Int32) (t_inputs : Nat → Int32) (z0 : Int32) (t_depth : Int32) (t_taken : Int32) (t_shown : Int32) (t_at : Nat → Int32) (t_in : Nat → Int32) (t_back : Nat → Int32) (t_register : Nat → Int32) (t_output : Nat → Int32) (t_calls : Nat → Int32) (t_latest : Nat → Int32) (t_differ : Nat → Int32) : Option (Int32 × Int32 × Int32 × Int32 × (Nat → Int32) × (Nat → Int32) × (Nat → Int32) × (Nat → Int32) × (Nat → Int32) × (Nat → Int32) × (Nat → Int32) × (Nat → Int32)) := if x1 = 0 then (g_rd 576 t_first (x2 + 1)).bind (fun v54 => f_X8_perform_52 N x1 x2 t_tableSize t_given t_parameters t_first t_anew t_table t_inputs z0 v54 (6 * (t_depth - 1)) t_depth t_taken t_shown t_at t_in t_back t_register t_output t_calls t_latest t_differ) else (g_rd 1152 t_anew (x2 + 1)).bind (fun v55 => f_X8_perform_52 N x1 x2 t_tableSize t_given t_parameters t_first t_anew t_table t_inputs z0 v55 (6 * (t_depth - 1)) t_depth t_taken t_shown t_at t_in t_back t_register t_output t_calls t_latest t_differ)
set_option maxHeartbeats 4000000 in
set_option maxRecDepth 100000 in
theorem b_X8_perform_19 {p : Program} {l : Launch} {e : Env} {s : State} {m : MethodId} {args : Array Value} {below : List Frame} {meth : Method} {c : Code} {tA : Nat} {dC : Nat → ClassId} {dI : Nat → Nat → Nat} {cI cZ cJ : ClassId} {A : Nat → Prop} {a_t : Nat} {a_t_parameters : Nat} {a_t_first : Nat} {a_t_anew : Nat} {a_t_table : Nat} {a_t_inputs : Nat} {a_t_at : Nat} {a_t_in : Nat} {a_t_back : Nat} {a_t_register : Nat} {a_t_output : Nat} {a_t_calls : Nat} {a_t_latest : Nat} {a_t_differ : Nat} {a_t_length : Nat} {a_t_newLength : Nat} {a_t_now : Nat} {a_t_met : Nat} {a_t_any : Nat} {a_t_number : Nat} {a_t_outAny : Nat} {a_t_out : Nat} {x1 : Int32} {x2 : Int32} {t_tableSize : Int32} {t_given : Int32} {t_parameters : Nat → Int32} {t_first : Nat → Int32} {t_anew : Nat → Int32} {t_table : Nat → Int32} {t_inputs : Nat → Int32} {t_code : Int32} {t_own : Int32} {t_count : Int32} {t_known : Int32} {t_news : Int32} {t_steps : Int32} {t_outcome : Int32} {N : Nat} {z0 : Int32} {t_depth : Int32} {t_taken : Int32} {t_shown : Int32} {t_at : Nat → Int32} {t_in : Nat → Int32} {t_back : Nat → Int32} {t_register : Nat → Int32} {t_output : Nat → Int32} {t_calls : Nat → Int32} {t_latest : Nat → Int32} {t_differ : Nat → Int32} {out : Int32 × Int32 × Int32 × Int32 × (Nat → Int32) × (Nat → Int32) × (Nat → Int32) × (Nat → Int32) × (Nat → Int32) × (Nat → Int32) × (Nat → Int32) × (Nat → Int32)} (hC : g_C p s m meth c args cX8_perform 8 (some .boolean) RX8) (hf : f_X8_perform_19 N x1 x2 t_tableSize t_given t_parameters t_first t_anew t_table t_inputs z0 t_depth t_taken t_shown t_at t_in t_back t_register t_output t_calls t_latest t_differ = some out) {H : Heap} {locs : List Loc} {ls : Array Slot} (hW : g_W tA dC dI cI cZ cJ A s H locs (w_X8_perform cI cZ cJ a_t a_t_parameters a_t_first a_t_anew a_t_table a_t_inputs a_t_at a_t_in a_t_back a_t_register a_t_output a_t_calls a_t_latest a_t_differ a_t_length a_t_newLength a_t_now a_t_met a_t_any a_t_number a_t_outAny a_t_out t_code t_own t_count t_tableSize t_given t_known t_news t_depth t_steps t_taken t_shown t_outcome t_parameters t_first t_anew t_table t_inputs t_at t_in t_back t_register t_output t_calls t_latest t_differ)) (hl : lv_has ls 8 [(0, .ref a_t), (1, .int x1), (2, .int x2)]) : W p l e r_X8_perform s m args below meth c H locs 0 0 (MQ below (g_Qi dC dI cI cZ cJ A (w_X8_perform cI cZ cJ a_t a_t_parameters a_t_first a_t_anew a_t_table a_t_inputs a_t_at a_t_in a_t_back a_t_register a_t_output a_t_calls a_t_latest a_t_differ a_t_length a_t_newLength a_t_now a_t_met a_t_any a_t_number a_t_outAny a_t_out t_code t_own t_count t_tableSize t_given t_known t_news out.2.1 t_steps out.2.2.1 out.2.2.2.1 t_outcome t_parameters t_first t_anew t_table t_inputs out.2.2.2.2.1 out.2.2.2.2.2.1 out.2.2.2.2.2.2.1 out.2.2.2.2.2.2.2.1 out.2.2.2.2.2.2.2.2.1 out.2.2.2.2.2.2.2.2.2.1 out.2.2.2.2.2.2.2.2.2.2.1 out.2.2.2.2.2.2.2.2.2.2.2) out.1) args s 0 0 A) (F0 m 19 ls [.int z0]) := by
  have hx := hC.1
  have hb := hC.2.1
  have hown := hC.2.2.2.2.1
  have hts := hC.2.2.2.2.2.1
  unfold f_X8_perform_19 at hf
  refine lv_istore_n (lv' := [(3, .int z0), (0, .ref a_t), (1, .int x1), (2, .int x2)]) hx hb dX8_perform_19 rfl hl (by decide) rfl (fun ls hl => ?_)
  refine lv_bipush (v := 6) hx hb dX8_perform_20 (by decide) ?_
  refine lv_aload_n hx hb dX8_perform_22 rfl (lv_at hl 1 rfl) ?_
  refine gs_get hC hW in_X8 0 20 rfl rfl (by decide) fl_X8_180 rfl dX8_perform_23 ?_
  refine lv_iconst (v := 1) hx hb dX8_perform_26 (by decide) ?_
  refine lv_isub hx hb dX8_perform_27 ?_
  refine lv_imul hx hb dX8_perform_28 ?_
  refine lv_iload_n hx hb dX8_perform_29 rfl (lv_at hl 2 rfl) ?_
  refine lv_if_eq (tgt := 44) hx hb dX8_perform_30 (by decide) (fun c53 => ?_) (fun c53 => ?_)
  · replace hf := (if_pos c53).symm.trans hf
    refine lv_aload_n hx hb dX8_perform_44 rfl (lv_at hl 1 rfl) ?_
    refine gs_get hC hW in_X8 0 6 rfl rfl (by decide) fl_X8_19 rfl dX8_perform_45 ?_
    refine lv_iload_n hx hb dX8_perform_48 rfl (lv_at hl 3 rfl) ?_
    refine lv_iconst (v := 1) hx hb dX8_perform_49 (by decide) ?_
    refine lv_iadd hx hb dX8_perform_50 ?_
    obtain ⟨v54, h54, hf⟩ := g_bnd hf
    refine gs_iald hC hW 2 h54 rfl dX8_perform_51 ?_
    exact b_X8_perform_52 hC hf hW (lv_sub hl [1, 2, 3, 0] rfl)
  · replace hf := (if_neg c53).symm.trans hf
    refine lv_aload_n hx hb dX8_perform_33 rfl (lv_at hl 1 rfl) ?_
    refine gs_get hC hW in_X8 0 8 rfl rfl (by decide) fl_X8_25 rfl dX8_perform_34 ?_
    refine lv_iload_n hx hb dX8_perform_37 rfl (lv_at hl 3 rfl) ?_
    refine lv_iconst (v := 1) hx hb dX8_perform_38 (by decide) ?_
    refine lv_iadd hx hb dX8_perform_39 ?_
    obtain ⟨v55, h55, hf⟩ := g_bnd hf
    refine gs_iald hC hW 3 h55 rfl dX8_perform_40 ?_
    refine lv_goto (tgt := 52) hx hb dX8_perform_41 (by decide) ?_
    exact b_X8_perform_52 hC hf hW (lv_sub hl [1, 2, 3, 0] rfl)
def f_X8_perform (N : Nat) (x1 : Int32) (x2 : Int32) (t_tableSize : Int32) (t_given : Int32) (t_depth : Int32) (t_taken : Int32) (t_shown : Int32) (t_parameters : Nat → Int32) (t_first : Nat → Int32) (t_anew : Nat → Int32) (t_table : Nat → Int32) (t_inputs : Nat → Int32) (t_at : Nat → Int32) (t_in : Nat → Int32) (t_back : Nat → Int32) (t_register : Nat → Int32) (t_output : Nat → Int32) (t_calls : Nat → Int32) (t_latest : Nat → Int32) (t_differ : Nat → Int32) : Option (Int32 × Int32 × Int32 × Int32 × (Nat → Int32) × (Nat → Int32) × (Nat → Int32) × (Nat → Int32) × (Nat → Int32) × (Nat → Int32) × (Nat → Int32) × (Nat → Int32)) := if x1 = 0 then (g_rd 576 t_first x2).bind (fun v57 => f_X8_perform_19 N x1 x2 t_tableSize t_given t_parameters t_first t_anew t_table t_inputs v57 t_depth t_taken t_shown t_at t_in t_back t_register t_output t_calls t_latest t_differ) else (g_rd 1152 t_anew x2).bind (fun v58 => f_X8_perform_19 N x1 x2 t_tableSize t_given t_parameters t_first t_anew t_table t_inputs v58 t_depth t_taken t_shown t_at t_in t_back t_register t_output t_calls t_latest t_differ)
set_option maxHeartbeats 4000000 in
set_option maxRecDepth 100000 in
theorem k_X8_perform (l : Launch) (tA : Nat) (dC : Nat → ClassId) (dI : Nat → Nat → Nat) (cI cZ cJ : ClassId) (a_t : Nat) (a_t_parameters : Nat) (a_t_first : Nat) (a_t_anew : Nat) (a_t_table : Nat) (a_t_inputs : Nat) (a_t_at : Nat) (a_t_in : Nat) (a_t_back : Nat) (a_t_register : Nat) (a_t_output : Nat) (a_t_calls : Nat) (a_t_latest : Nat) (a_t_differ : Nat) (a_t_length : Nat) (a_t_newLength : Nat) (a_t_now : Nat) (a_t_met : Nat) (a_t_any : Nat) (a_t_number : Nat) (a_t_outAny : Nat) (a_t_out : Nat) (N : Nat) (x1 : Int32) (x2 : Int32) (t_code : Int32) (t_own : Int32) (t_count : Int32) (t_tableSize : Int32) (t_given : Int32) (t_known : Int32) (t_news : Int32) (t_depth : Int32) (t_steps : Int32) (t_taken : Int32) (t_shown : Int32) (t_outcome : Int32) (t_parameters : Nat → Int32) (t_first : Nat → Int32) (t_anew : Nat → Int32) (t_table : Nat → Int32) (t_inputs : Nat → Int32) (t_at : Nat → Int32) (t_in : Nat → Int32) (t_back : Nat → Int32) (t_register : Nat → Int32) (t_output : Nat → Int32) (t_calls : Nat → Int32) (t_latest : Nat → Int32) (t_differ : Nat → Int32) (out : Int32 × Int32 × Int32 × Int32 × (Nat → Int32) × (Nat → Int32) × (Nat → Int32) × (Nat → Int32) × (Nat → Int32) × (Nat → Int32) × (Nat → Int32) × (Nat → Int32)) (hf : f_X8_perform N x1 x2 t_tableSize t_given t_depth t_taken t_shown t_parameters t_first t_anew t_table t_inputs t_at t_in t_back t_register t_output t_calls t_latest t_differ = some out) : g_Mi l yX8_perform cX8_perform 8 (some .boolean) r_X8_perform tA dC dI cI cZ cJ [.ref a_t, .int x1, .int x2] (w_X8_perform cI cZ cJ a_t a_t_parameters a_t_first a_t_anew a_t_table a_t_inputs a_t_at a_t_in a_t_back a_t_register a_t_output a_t_calls a_t_latest a_t_differ a_t_length a_t_newLength a_t_now a_t_met a_t_any a_t_number a_t_outAny a_t_out t_code t_own t_count t_tableSize t_given t_known t_news t_depth t_steps t_taken t_shown t_outcome t_parameters t_first t_anew t_table t_inputs t_at t_in t_back t_register t_output t_calls t_latest t_differ) (w_X8_perform cI cZ cJ a_t a_t_parameters a_t_first a_t_anew a_t_table a_t_inputs a_t_at a_t_in a_t_back a_t_register a_t_output a_t_calls a_t_latest a_t_differ a_t_length a_t_newLength a_t_now a_t_met a_t_any a_t_number a_t_outAny a_t_out t_code t_own t_count t_tableSize t_given t_known t_news out.2.1 t_steps out.2.2.1 out.2.2.2.1 t_outcome t_parameters t_first t_anew t_table t_inputs out.2.2.2.2.1 out.2.2.2.2.2.1 out.2.2.2.2.2.2.1 out.2.2.2.2.2.2.2.1 out.2.2.2.2.2.2.2.2.1 out.2.2.2.2.2.2.2.2.2.1 out.2.2.2.2.2.2.2.2.2.2.1 out.2.2.2.2.2.2.2.2.2.2.2) out.1 := by
  unfold f_X8_perform at hf
  refine ge_i (by decide) (Nat.le_of_ble_eq_true rfl) (fun p e s m below meth c A H locs ls hC hW hl => ?_)
  have hC : g_C p s m meth c _ cX8_perform 8 (some .boolean) RX8 := hC
  have hx := hC.1
  have hb := hC.2.1
  have hown := hC.2.2.2.2.1
  have hts := hC.2.2.2.2.2.1
  have hl : lv_has ls 8 [(0, .ref a_t), (1, .int x1), (2, .int x2)] := hl
  refine lv_iload_n hx hb dX8_perform_0 rfl (lv_at hl 1 rfl) ?_
  refine lv_if_eq (tgt := 13) hx hb dX8_perform_1 (by decide) (fun c56 => ?_) (fun c56 => ?_)
  · replace hf := (if_pos c56).symm.trans hf
    refine lv_aload_n hx hb dX8_perform_13 rfl (lv_at hl 0 rfl) ?_
    refine gs_get hC hW in_X8 0 6 rfl rfl (by decide) fl_X8_19 rfl dX8_perform_14 ?_
    refine lv_iload_n hx hb dX8_perform_17 rfl (lv_at hl 2 rfl) ?_
    obtain ⟨v57, h57, hf⟩ := g_bnd hf
    refine gs_iald hC hW 2 h57 rfl dX8_perform_18 ?_
    exact b_X8_perform_19 hC hf hW (lv_sub hl [0, 1, 2] rfl)
  · replace hf := (if_neg c56).symm.trans hf
    refine lv_aload_n hx hb dX8_perform_4 rfl (lv_at hl 0 rfl) ?_
    refine gs_get hC hW in_X8 0 8 rfl rfl (by decide) fl_X8_25 rfl dX8_perform_5 ?_
    refine lv_iload_n hx hb dX8_perform_8 rfl (lv_at hl 2 rfl) ?_
    obtain ⟨v58, h58, hf⟩ := g_bnd hf
    refine gs_iald hC hW 3 h58 rfl dX8_perform_9 ?_
    refine lv_goto (tgt := 19) hx hb dX8_perform_10 (by decide) ?_
    exact b_X8_perform_19 hC hf hW (lv_sub hl [0, 1, 2] rfl)

abbrev w_X8_go (cI cZ cJ : ClassId) (a_t : Nat) (a_t_parameters : Nat) (a_t_length : Nat) (a_t_newLength : Nat) (a_t_first : Nat) (a_t_anew : Nat) (a_t_table : Nat) (a_t_inputs : Nat) (a_t_at : Nat) (a_t_in : Nat) (a_t_back : Nat) (a_t_register : Nat) (a_t_output : Nat) (a_t_calls : Nat) (a_t_latest : Nat) (a_t_differ : Nat) (a_t_now : Nat) (a_t_met : Nat) (a_t_any : Nat) (a_t_number : Nat) (a_t_outAny : Nat) (a_t_out : Nat) (t_code : Int32) (t_own : Int32) (t_count : Int32) (t_tableSize : Int32) (t_given : Int32) (t_known : Int32) (t_news : Int32) (t_depth : Int32) (t_steps : Int32) (t_taken : Int32) (t_shown : Int32) (t_outcome : Int32) (t_parameters : Nat → Int32) (t_length : Nat → Int32) (t_newLength : Nat → Int32) (t_first : Nat → Int32) (t_anew : Nat → Int32) (t_table : Nat → Int32) (t_inputs : Nat → Int32) (t_at : Nat → Int32) (t_in : Nat → Int32) (t_back : Nat → Int32) (t_register : Nat → Int32) (t_output : Nat → Int32) (t_calls : Nat → Int32) (t_latest : Nat → Int32) (t_differ : Nat → Int32) : va_W := [(a_t, .inr (8, [.int t_code, .int t_own, .int t_count, .ref a_t_parameters, .ref a_t_length, .ref a_t_newLength, .ref a_t_first, .ref a_t_now, .ref a_t_anew, .int t_tableSize, .ref a_t_table, .int t_given, .ref a_t_inputs, .int t_known, .ref a_t_met, .ref a_t_any, .ref a_t_number, .int t_news, .ref a_t_outAny, .ref a_t_out, .int t_depth, .int t_steps, .int t_taken, .int t_shown, .ref a_t_at, .ref a_t_in, .ref a_t_back, .ref a_t_register, .ref a_t_output, .ref a_t_calls, .ref a_t_latest, .ref a_t_differ, .int t_outcome])), (a_t_parameters, .inl (cI, 12, .inl t_parameters)), (a_t_length, .inl (cI, 12, .inl t_length)), (a_t_newLength, .inl (cI, 12, .inl t_newLength)), (a_t_first, .inl (cI, 576, .inl t_first)), (a_t_anew, .inl (cI, 1152, .inl t_anew)), (a_t_table, .inl (cI, 4, .inl t_table)), (a_t_inputs, .inl (cI, 12, .inl t_inputs)), (a_t_at, .inl (cI, 11, .inl t_at)), (a_t_in, .inl (cI, 11, .inl t_in)), (a_t_back, .inl (cI, 11, .inl t_back)), (a_t_register, .inl (cI, 66, .inl t_register)), (a_t_output, .inl (cI, 40, .inl t_output)), (a_t_calls, .inl (cI, 12, .inl t_calls)), (a_t_latest, .inl (cI, 36, .inl t_latest)), (a_t_differ, .inl (cZ, 36, .inl t_differ))]
abbrev r_X8_go : Room := { frames := 4, cells := 0, slots := 0, locals := 93 }
def f_X8_go_59 (N : Nat) (x1 : Int32) (x2 : Int32) (t_tableSize : Int32) (t_given : Int32) (t_parameters : Nat → Int32) (t_length : Nat → Int32) (t_newLength : Nat → Int32) (t_first : Nat → Int32) (t_anew : Nat → Int32) (t_table : Nat → Int32) (t_inputs : Nat → Int32) (x3 : Int32) (x4 : Int32) (z0 : Int32) (z1 : Int32) (t_depth : Int32) (t_steps : Int32) (t_taken : Int32) (t_shown : Int32) (t_outcome : Int32) (t_at : Nat → Int32) (t_in : Nat → Int32) (t_back : Nat → Int32) (t_register : Nat → Int32) (t_output : Nat → Int32) (t_calls : Nat → Int32) (t_latest : Nat → Int32) (t_differ : Nat → Int32) : Option (Int32 × Int32 × Int32 × Int32 × Int32 × (Nat → Int32) × (Nat → Int32) × (Nat → Int32) × (Nat → Int32) × (Nat → Int32) × (Nat → Int32) × (Nat → Int32) × (Nat → Int32)) := if z1 < z0 then if t_steps = x2 then some (t_depth, t_steps, t_taken, t_shown, 0, t_at, t_in, t_back, t_register, t_output, t_calls, t_latest, t_differ) else (f_X8_perform N x1 ((96 * x3) + (6 * x4)) t_tableSize t_given t_depth t_taken t_shown t_parameters t_first t_anew t_table t_inputs t_at t_in t_back t_register t_output t_calls t_latest t_differ).bind (fun o3 => if o3.1 = 0 then some (o3.2.1, t_steps, o3.2.2.1, o3.2.2.2.1, 2, o3.2.2.2.2.1, o3.2.2.2.2.2.1, o3.2.2.2.2.2.2.1, o3.2.2.2.2.2.2.2.1, o3.2.2.2.2.2.2.2.2.1, o3.2.2.2.2.2.2.2.2.2.1, o3.2.2.2.2.2.2.2.2.2.2.1, o3.2.2.2.2.2.2.2.2.2.2.2) else some (o3.2.1, t_steps + 1, o3.2.2.1, o3.2.2.2.1, t_outcome, o3.2.2.2.2.1, o3.2.2.2.2.2.1, o3.2.2.2.2.2.2.1, o3.2.2.2.2.2.2.2.1, o3.2.2.2.2.2.2.2.2.1, o3.2.2.2.2.2.2.2.2.2.1, o3.2.2.2.2.2.2.2.2.2.2.1, o3.2.2.2.2.2.2.2.2.2.2.2)) else (f_X8_giveBack 0 t_depth t_back t_register).bind (fun o5 => some (o5.1, t_steps, t_taken, t_shown, t_outcome, t_at, t_in, t_back, o5.2, t_output, t_calls, t_latest, t_differ))
set_option maxHeartbeats 4000000 in
set_option maxRecDepth 100000 in
theorem b_X8_go_59 {p : Program} {l : Launch} {e : Env} {s : State} {m : MethodId} {args : Array Value} {below : List Frame} {meth : Method} {c : Code} {tA : Nat} {dC : Nat → ClassId} {dI : Nat → Nat → Nat} {cI cZ cJ : ClassId} {A : Nat → Prop} {a_t : Nat} {a_t_parameters : Nat} {a_t_length : Nat} {a_t_newLength : Nat} {a_t_first : Nat} {a_t_anew : Nat} {a_t_table : Nat} {a_t_inputs : Nat} {a_t_at : Nat} {a_t_in : Nat} {a_t_back : Nat} {a_t_register : Nat} {a_t_output : Nat} {a_t_calls : Nat} {a_t_latest : Nat} {a_t_differ : Nat} {a_t_now : Nat} {a_t_met : Nat} {a_t_any : Nat} {a_t_number : Nat} {a_t_outAny : Nat} {a_t_out : Nat} {x1 : Int32} {x2 : Int32} {t_tableSize : Int32} {t_given : Int32} {t_parameters : Nat → Int32} {t_length : Nat → Int32} {t_newLength : Nat → Int32} {t_first : Nat → Int32} {t_anew : Nat → Int32} {t_table : Nat → Int32} {t_inputs : Nat → Int32} {t_code : Int32} {t_own : Int32} {t_count : Int32} {t_known : Int32} {t_news : Int32} {N : Nat} {x3 : Int32} {x4 : Int32} {z0 : Int32} {z1 : Int32} {t_depth : Int32} {t_steps : Int32} {t_taken : Int32} {t_shown : Int32} {t_outcome : Int32} {t_at : Nat → Int32} {t_in : Nat → Int32} {t_back : Nat → Int32} {t_register : Nat → Int32} {t_output : Nat → Int32} {t_calls : Nat → Int32} {t_latest : Nat → Int32} {t_differ : Nat → Int32} {out : Int32 × Int32 × Int32 × Int32 × Int32 × (Nat → Int32) × (Nat → Int32) × (Nat → Int32) × (Nat → Int32) × (Nat → Int32) × (Nat → Int32) × (Nat → Int32) × (Nat → Int32)} (hC : g_C p s m meth c args cX8_go 5 (none : Option Jvm.ClassFile.FieldType) RX8) (hf : f_X8_go_59 N x1 x2 t_tableSize t_given t_parameters t_length t_newLength t_first t_anew t_table t_inputs x3 x4 z0 z1 t_depth t_steps t_taken t_shown t_outcome t_at t_in t_back t_register t_output t_calls t_latest t_differ = some out) {H : Heap} {locs : List Loc} {ls : Array Slot} (hW : g_W tA dC dI cI cZ cJ A s H locs (w_X8_go cI cZ cJ a_t a_t_parameters a_t_length a_t_newLength a_t_first a_t_anew a_t_table a_t_inputs a_t_at a_t_in a_t_back a_t_register a_t_output a_t_calls a_t_latest a_t_differ a_t_now a_t_met a_t_any a_t_number a_t_outAny a_t_out t_code t_own t_count t_tableSize t_given t_known t_news t_depth t_steps t_taken t_shown t_outcome t_parameters t_length t_newLength t_first t_anew t_table t_inputs t_at t_in t_back t_register t_output t_calls t_latest t_differ)) (hl : lv_has ls 5 [(0, .ref a_t), (1, .int x1), (2, .int x2), (3, .int x3), (4, .int x4)]) : W p l e r_X8_go s m args below meth c H locs 0 0 (MQ below (g_Qv dC dI cI cZ cJ A (w_X8_go cI cZ cJ a_t a_t_parameters a_t_length a_t_newLength a_t_first a_t_anew a_t_table a_t_inputs a_t_at a_t_in a_t_back a_t_register a_t_output a_t_calls a_t_latest a_t_differ a_t_now a_t_met a_t_any a_t_number a_t_outAny a_t_out t_code t_own t_count t_tableSize t_given t_known t_news out.1 out.2.1 out.2.2.1 out.2.2.2.1 out.2.2.2.2.1 t_parameters t_length t_newLength t_first t_anew t_table t_inputs out.2.2.2.2.2.1 out.2.2.2.2.2.2.1 out.2.2.2.2.2.2.2.1 out.2.2.2.2.2.2.2.2.1 out.2.2.2.2.2.2.2.2.2.1 out.2.2.2.2.2.2.2.2.2.2.1 out.2.2.2.2.2.2.2.2.2.2.2.1 out.2.2.2.2.2.2.2.2.2.2.2.2)) args s 0 0 A) (F0 m 59 ls [.int z0, .int z1]) := by
  have hx := hC.1
  have hb := hC.2.1
  have hown := hC.2.2.2.2.1
  have hts := hC.2.2.2.2.2.1
  unfold f_X8_go_59 at hf
  refine lv_icmp_lt (tgt := 70) hx hb dX8_go_59 (by decide) (fun c1 => ?_) (fun c1 => ?_)
  · replace hf := (if_pos c1).symm.trans hf
    refine lv_aload_n hx hb dX8_go_70 rfl (lv_at hl 0 rfl) ?_
    refine gs_get hC hW in_X8 0 21 rfl rfl (by decide) fl_X8_203 rfl dX8_go_71 ?_
    refine lv_iload_n hx hb dX8_go_74 rfl (lv_at hl 2 rfl) ?_
    refine lv_icmp_ne (tgt := 86) hx hb dX8_go_75 (by decide) (fun c2 => ?_) (fun c2 => ?_)
    · replace hf := (if_neg c2).symm.trans hf
      refine lv_aload_n hx hb dX8_go_86 rfl (lv_at hl 0 rfl) ?_
      refine lv_iload_n hx hb dX8_go_87 rfl (lv_at hl 1 rfl) ?_
      refine lv_bipush (v := 96) hx hb dX8_go_88 (by decide) ?_
      refine lv_iload_n hx hb dX8_go_90 rfl (lv_at hl 3 rfl) ?_
      refine lv_imul hx hb dX8_go_91 ?_
      refine lv_bipush (v := 6) hx hb dX8_go_92 (by decide) ?_
      refine lv_iload hx hb dX8_go_94 (lv_at hl 4 rfl) ?_
      refine lv_imul hx hb dX8_go_96 ?_
      refine lv_iadd hx hb dX8_go_97 ?_
      obtain ⟨o3, h3, hf⟩ := g_bnd hf
      refine gs_callVi (ws' := w_X8_go cI cZ cJ a_t a_t_parameters a_t_length a_t_newLength a_t_first a_t_anew a_t_table a_t_inputs a_t_at a_t_in a_t_back a_t_register a_t_output a_t_calls a_t_latest a_t_differ a_t_now a_t_met a_t_any a_t_number a_t_outAny a_t_out t_code t_own t_count t_tableSize t_given t_known t_news o3.2.1 t_steps o3.2.2.1 o3.2.2.2.1 t_outcome t_parameters t_length t_newLength t_first t_anew t_table t_inputs o3.2.2.2.2.1 o3.2.2.2.2.2.1 o3.2.2.2.2.2.2.1 o3.2.2.2.2.2.2.2.1 o3.2.2.2.2.2.2.2.2.1 o3.2.2.2.2.2.2.2.2.2.1 o3.2.2.2.2.2.2.2.2.2.2.1 o3.2.2.2.2.2.2.2.2.2.2.2) hC hW (k_X8_perform l tA dC dI cI cZ cJ a_t a_t_parameters a_t_first a_t_anew a_t_table a_t_inputs a_t_at a_t_in a_t_back a_t_register a_t_output a_t_calls a_t_latest a_t_differ a_t_length a_t_newLength a_t_now a_t_met a_t_any a_t_number a_t_outAny a_t_out N x1 ((96 * x3) + (6 * x4)) t_code t_own t_count t_tableSize t_given t_known t_news t_depth t_steps t_taken t_shown t_outcome t_parameters t_first t_anew t_table t_inputs t_at t_in t_back t_register t_output t_calls t_latest t_differ _ h3) yk_X8_perform lk_X8_213 iv_X8_perform ⟨rfl, rfl⟩ ⟨Nat.le_of_ble_eq_true rfl, Nat.le_of_ble_eq_true rfl⟩ hl.1 0 rfl rfl [0, 1, 4, 5, 6, 7, 8, 9, 10, 11, 12, 13, 14, 15] [2, 3] [2, 3, 0, 1, 4, 5, 6, 7, 8, 9, 10, 11, 12, 13, 14, 15] rfl rfl rfl rfl (by decide) rfl rfl rfl rfl (Nat.le_of_ble_eq_true rfl) dX8_go_98 ⟨Nat.zero_le _, Nat.zero_le _⟩ (fun H locs hW => ?_)
      refine lv_if_ne (tgt := 112) hx hb dX8_go_101 (by decide) (fun c4 => ?_) (fun c4 => ?_)
      · replace hf := (if_neg c4).symm.trans hf
        refine lv_aload_n hx hb dX8_go_112 rfl (lv_at hl 0 rfl) ?_
        refine lv_dup hx hb dX8_go_113 rfl ?_
        refine gs_get hC hW in_X8 0 21 rfl rfl (by decide) fl_X8_203 rfl dX8_go_114 ?_
        refine lv_iconst (v := 1) hx hb dX8_go_117 (by decide) ?_
        refine lv_iadd hx hb dX8_go_118 ?_
        refine gs_put (ws' := w_X8_go cI cZ cJ a_t a_t_parameters a_t_length a_t_newLength a_t_first a_t_anew a_t_table a_t_inputs a_t_at a_t_in a_t_back a_t_register a_t_output a_t_calls a_t_latest a_t_differ a_t_now a_t_met a_t_any a_t_number a_t_outAny a_t_out t_code t_own t_count t_tableSize t_given t_known t_news o3.2.1 (t_steps + 1) o3.2.2.1 o3.2.2.2.1 t_outcome t_parameters t_length t_newLength t_first t_anew t_table t_inputs o3.2.2.2.2.1 o3.2.2.2.2.2.1 o3.2.2.2.2.2.2.1 o3.2.2.2.2.2.2.2.1 o3.2.2.2.2.2.2.2.2.1 o3.2.2.2.2.2.2.2.2.2.1 o3.2.2.2.2.2.2.2.2.2.2.1 o3.2.2.2.2.2.2.2.2.2.2.2) hC hW in_X8 tyX8_ok nmX8 0 21 rfl rfl (by decide) fl_X8_203 rfl rfl rfl (Nat.le_of_ble_eq_true rfl) rfl dX8_go_119 (fun H locs hW => ?_)
        obtain rfl := Option.some.inj hf
        exact gs_rv hC hW rfl dX8_go_122
      · replace hf := (if_pos c4).symm.trans hf
        refine lv_aload_n hx hb dX8_go_104 rfl (lv_at hl 0 rfl) ?_
        refine lv_iconst (v := 2) hx hb dX8_go_105 (by decide) ?_
        refine gs_put (ws' := w_X8_go cI cZ cJ a_t a_t_parameters a_t_length a_t_newLength a_t_first a_t_anew a_t_table a_t_inputs a_t_at a_t_in a_t_back a_t_register a_t_output a_t_calls a_t_latest a_t_differ a_t_now a_t_met a_t_any a_t_number a_t_outAny a_t_out t_code t_own t_count t_tableSize t_given t_known t_news o3.2.1 t_steps o3.2.2.1 o3.2.2.2.1 2 t_parameters t_length t_newLength t_first t_anew t_table t_inputs o3.2.2.2.2.1 o3.2.2.2.2.2.1 o3.2.2.2.2.2.2.1 o3.2.2.2.2.2.2.2.1 o3.2.2.2.2.2.2.2.2.1 o3.2.2.2.2.2.2.2.2.2.1 o3.2.2.2.2.2.2.2.2.2.2.1 o3.2.2.2.2.2.2.2.2.2.2.2) hC hW in_X8 tyX8_ok nmX8 0 32 rfl rfl (by decide) fl_X8_206 rfl rfl rfl (Nat.le_of_ble_eq_true rfl) rfl dX8_go_106 (fun H locs hW => ?_)
        refine lv_goto (tgt := 122) hx hb dX8_go_109 (by decide) ?_
        obtain rfl := Option.some.inj hf
        exact gs_rv hC hW rfl dX8_go_122
    · replace hf := (if_pos c2).symm.trans hf
      refine lv_aload_n hx hb dX8_go_78 rfl (lv_at hl 0 rfl) ?_
      refine lv_iconst (v := 0) hx hb dX8_go_79 (by decide) ?_
      refine gs_put (ws' := w_X8_go cI cZ cJ a_t a_t_parameters a_t_length a_t_newLength a_t_first a_t_anew a_t_table a_t_inputs a_t_at a_t_in a_t_back a_t_register a_t_output a_t_calls a_t_latest a_t_differ a_t_now a_t_met a_t_any a_t_number a_t_outAny a_t_out t_code t_own t_count t_tableSize t_given t_known t_news t_depth t_steps t_taken t_shown 0 t_parameters t_length t_newLength t_first t_anew t_table t_inputs t_at t_in t_back t_register t_output t_calls t_latest t_differ) hC hW in_X8 tyX8_ok nmX8 0 32 rfl rfl (by decide) fl_X8_206 rfl rfl rfl (Nat.le_of_ble_eq_true rfl) rfl dX8_go_80 (fun H locs hW => ?_)
      refine lv_goto (tgt := 122) hx hb dX8_go_83 (by decide) ?_
      obtain rfl := Option.some.inj hf
      exact gs_rv hC hW rfl dX8_go_122
  · replace hf := (if_neg c1).symm.trans hf
    refine lv_aload_n hx hb dX8_go_62 rfl (lv_at hl 0 rfl) ?_
    refine lv_iconst (v := 0) hx hb dX8_go_63 (by decide) ?_
    obtain ⟨o5, h5, hf⟩ := g_bnd hf
    refine gs_callVv (ws' := w_X8_go cI cZ cJ a_t a_t_parameters a_t_length a_t_newLength a_t_first a_t_anew a_t_table a_t_inputs a_t_at a_t_in a_t_back a_t_register a_t_output a_t_calls a_t_latest a_t_differ a_t_now a_t_met a_t_any a_t_number a_t_outAny a_t_out t_code t_own t_count t_tableSize t_given t_known t_news o5.1 t_steps t_taken t_shown t_outcome t_parameters t_length t_newLength t_first t_anew t_table t_inputs t_at t_in t_back o5.2 t_output t_calls t_latest t_differ) hC hW (k_X8_giveBack l tA dC dI cI cZ cJ a_t a_t_back a_t_register a_t_parameters a_t_length a_t_newLength a_t_first a_t_now a_t_anew a_t_table a_t_inputs a_t_met a_t_any a_t_number a_t_outAny a_t_out a_t_at a_t_in a_t_output a_t_calls a_t_latest a_t_differ 0 t_code t_own t_count t_tableSize t_given t_known t_news t_depth t_steps t_taken t_shown t_outcome t_back t_register _ h5) yk_X8_giveBack lk_X8_195 iv_X8_giveBack ⟨rfl, rfl⟩ ⟨Nat.le_of_ble_eq_true rfl, Nat.le_of_ble_eq_true rfl⟩ hl.1 0 rfl rfl [0, 10, 11] [1, 2, 3, 4, 5, 6, 7, 8, 9, 12, 13, 14, 15] [13, 0, 1, 2, 3, 4, 5, 6, 7, 8, 14, 15, 9, 10, 11, 12] rfl rfl rfl rfl (by decide) rfl rfl rfl rfl (Nat.le_of_ble_eq_true rfl) dX8_go_64 ⟨Nat.zero_le _, Nat.zero_le _⟩ (fun H locs hW => ?_)
    refine lv_goto (tgt := 122) hx hb dX8_go_67 (by decide) ?_
    obtain rfl := Option.some.inj hf
    exact gs_rv hC hW rfl dX8_go_122
def f_X8_go (N : Nat) (x1 : Int32) (x2 : Int32) (t_tableSize : Int32) (t_given : Int32) (t_depth : Int32) (t_steps : Int32) (t_taken : Int32) (t_shown : Int32) (t_outcome : Int32) (t_parameters : Nat → Int32) (t_length : Nat → Int32) (t_newLength : Nat → Int32) (t_first : Nat → Int32) (t_anew : Nat → Int32) (t_table : Nat → Int32) (t_inputs : Nat → Int32) (t_at : Nat → Int32) (t_in : Nat → Int32) (t_back : Nat → Int32) (t_register : Nat → Int32) (t_output : Nat → Int32) (t_calls : Nat → Int32) (t_latest : Nat → Int32) (t_differ : Nat → Int32) : Option (Int32 × Int32 × Int32 × Int32 × Int32 × (Nat → Int32) × (Nat → Int32) × (Nat → Int32) × (Nat → Int32) × (Nat → Int32) × (Nat → Int32) × (Nat → Int32) × (Nat → Int32)) := if t_depth = 0 then some (t_depth, t_steps, t_taken, t_shown, 1, t_at, t_in, t_back, t_register, t_output, t_calls, t_latest, t_differ) else (g_rd 11 t_in (t_depth - 1)).bind (fun v7 => (g_rd 11 t_at (t_depth - 1)).bind (fun v8 => if x1 = 0 then (g_rd 12 t_length v7).bind (fun v10 => f_X8_go_59 N x1 x2 t_tableSize t_given t_parameters t_length t_newLength t_first t_anew t_table t_inputs v7 v8 v10 v8 t_depth t_steps t_taken t_shown t_outcome t_at t_in t_back t_register t_output t_calls t_latest t_differ) else (g_rd 12 t_newLength v7).bind (fun v11 => f_X8_go_59 N x1 x2 t_tableSize t_given t_parameters t_length t_newLength t_first t_anew t_table t_inputs v7 v8 v11 v8 t_depth t_steps t_taken t_shown t_outcome t_at t_in t_back t_register t_output t_calls t_latest t_differ)))
set_option maxHeartbeats 4000000 in
set_option maxRecDepth 100000 in
theorem k_X8_go (l : Launch) (tA : Nat) (dC : Nat → ClassId) (dI : Nat → Nat → Nat) (cI cZ cJ : ClassId) (a_t : Nat) (a_t_parameters : Nat) (a_t_length : Nat) (a_t_newLength : Nat) (a_t_first : Nat) (a_t_anew : Nat) (a_t_table : Nat) (a_t_inputs : Nat) (a_t_at : Nat) (a_t_in : Nat) (a_t_back : Nat) (a_t_register : Nat) (a_t_output : Nat) (a_t_calls : Nat) (a_t_latest : Nat) (a_t_differ : Nat) (a_t_now : Nat) (a_t_met : Nat) (a_t_any : Nat) (a_t_number : Nat) (a_t_outAny : Nat) (a_t_out : Nat) (N : Nat) (x1 : Int32) (x2 : Int32) (t_code : Int32) (t_own : Int32) (t_count : Int32) (t_tableSize : Int32) (t_given : Int32) (t_known : Int32) (t_news : Int32) (t_depth : Int32) (t_steps : Int32) (t_taken : Int32) (t_shown : Int32) (t_outcome : Int32) (t_parameters : Nat → Int32) (t_length : Nat → Int32) (t_newLength : Nat → Int32) (t_first : Nat → Int32) (t_anew : Nat → Int32) (t_table : Nat → Int32) (t_inputs : Nat → Int32) (t_at : Nat → Int32) (t_in : Nat → Int32) (t_back : Nat → Int32) (t_register : Nat → Int32) (t_output : Nat → Int32) (t_calls : Nat → Int32) (t_latest : Nat → Int32) (t_differ : Nat → Int32) (out : Int32 × Int32 × Int32 × Int32 × Int32 × (Nat → Int32) × (Nat → Int32) × (Nat → Int32) × (Nat → Int32) × (Nat → Int32) × (Nat → Int32) × (Nat → Int32) × (Nat → Int32)) (hf : f_X8_go N x1 x2 t_tableSize t_given t_depth t_steps t_taken t_shown t_outcome t_parameters t_length t_newLength t_first t_anew t_table t_inputs t_at t_in t_back t_register t_output t_calls t_latest t_differ = some out) : g_Mv l yX8_go cX8_go 5 (none : Option Jvm.ClassFile.FieldType) r_X8_go tA dC dI cI cZ cJ [.ref a_t, .int x1, .int x2] (w_X8_go cI cZ cJ a_t a_t_parameters a_t_length a_t_newLength a_t_first a_t_anew a_t_table a_t_inputs a_t_at a_t_in a_t_back a_t_register a_t_output a_t_calls a_t_latest a_t_differ a_t_now a_t_met a_t_any a_t_number a_t_outAny a_t_out t_code t_own t_count t_tableSize t_given t_known t_news t_depth t_steps t_taken t_shown t_outcome t_parameters t_length t_newLength t_first t_anew t_table t_inputs t_at t_in t_back t_register t_output t_calls t_latest t_differ) (w_X8_go cI cZ cJ a_t a_t_parameters a_t_length a_t_newLength a_t_first a_t_anew a_t_table a_t_inputs a_t_at a_t_in a_t_back a_t_register a_t_output a_t_calls a_t_latest a_t_differ a_t_now a_t_met a_t_any a_t_number a_t_outAny a_t_out t_code t_own t_count t_tableSize t_given t_known t_news out.1 out.2.1 out.2.2.1 out.2.2.2.1 out.2.2.2.2.1 t_parameters t_length t_newLength t_first t_anew t_table t_inputs out.2.2.2.2.2.1 out.2.2.2.2.2.2.1 out.2.2.2.2.2.2.2.1 out.2.2.2.2.2.2.2.2.1 out.2.2.2.2.2.2.2.2.2.1 out.2.2.2.2.2.2.2.2.2.2.1 out.2.2.2.2.2.2.2.2.2.2.2.1 out.2.2.2.2.2.2.2.2.2.2.2.2) := by
  unfold f_X8_go at hf
  refine ge_v (by decide) (Nat.le_of_ble_eq_true rfl) (fun p e s m below meth c A H locs ls hC hW hl => ?_)
  have hC : g_C p s m meth c _ cX8_go 5 (none : Option Jvm.ClassFile.FieldType) RX8 := hC
  have hx := hC.1
  have hb := hC.2.1
  have hown := hC.2.2.2.2.1
  have hts := hC.2.2.2.2.2.1
  have hl : lv_has ls 5 [(0, .ref a_t), (1, .int x1), (2, .int x2)] := hl
  refine lv_aload_n hx hb dX8_go_0 rfl (lv_at hl 0 rfl) ?_
  refine gs_get hC hW in_X8 0 20 rfl rfl (by decide) fl_X8_180 rfl dX8_go_1 ?_
  refine lv_if_ne (tgt := 13) hx hb dX8_go_4 (by decide) (fun c6 => ?_) (fun c6 => ?_)
  · replace hf := (if_neg c6).symm.trans hf
    refine lv_aload_n hx hb dX8_go_13 rfl (lv_at hl 0 rfl) ?_
    refine gs_get hC hW in_X8 0 25 rfl rfl (by decide) fl_X8_53 rfl dX8_go_14 ?_
    refine lv_aload_n hx hb dX8_go_17 rfl (lv_at hl 0 rfl) ?_
    refine gs_get hC hW in_X8 0 20 rfl rfl (by decide) fl_X8_180 rfl dX8_go_18 ?_
    refine lv_iconst (v := 1) hx hb dX8_go_21 (by decide) ?_
    refine lv_isub hx hb dX8_go_22 ?_
    obtain ⟨v7, h7, hf⟩ := g_bnd hf
    refine gs_iald hC hW 9 h7 rfl dX8_go_23 ?_
    refine lv_istore_n (lv' := [(3, .int v7), (0, .ref a_t), (1, .int x1), (2, .int x2)]) hx hb dX8_go_24 rfl hl (by decide) rfl (fun ls hl => ?_)
    refine lv_aload_n hx hb dX8_go_25 rfl (lv_at hl 1 rfl) ?_
    refine gs_get hC hW in_X8 0 24 rfl rfl (by decide) fl_X8_50 rfl dX8_go_26 ?_
    refine lv_aload_n hx hb dX8_go_29 rfl (lv_at hl 1 rfl) ?_
    refine gs_get hC hW in_X8 0 20 rfl rfl (by decide) fl_X8_180 rfl dX8_go_30 ?_
    refine lv_iconst (v := 1) hx hb dX8_go_33 (by decide) ?_
    refine lv_isub hx hb dX8_go_34 ?_
    obtain ⟨v8, h8, hf⟩ := g_bnd hf
    refine gs_iald hC hW 8 h8 rfl dX8_go_35 ?_
    refine lv_istore (lv' := [(4, .int v8), (3, .int v7), (0, .ref a_t), (1, .int x1), (2, .int x2)]) hx hb dX8_go_36 hl (by decide) rfl (fun ls hl => ?_)
    refine lv_iload hx hb dX8_go_38 (lv_at hl 0 rfl) ?_
    refine lv_iload_n hx hb dX8_go_40 rfl (lv_at hl 3 rfl) ?_
    refine lv_if_eq (tgt := 53) hx hb dX8_go_41 (by decide) (fun c9 => ?_) (fun c9 => ?_)
    · replace hf := (if_pos c9).symm.trans hf
      refine lv_aload_n hx hb dX8_go_53 rfl (lv_at hl 2 rfl) ?_
      refine gs_get hC hW in_X8 0 4 rfl rfl (by decide) fl_X8_13 rfl dX8_go_54 ?_
      refine lv_iload_n hx hb dX8_go_57 rfl (lv_at hl 1 rfl) ?_
      obtain ⟨v10, h10, hf⟩ := g_bnd hf
      refine gs_iald hC hW 2 h10 rfl dX8_go_58 ?_
      exact b_X8_go_59 hC hf hW (lv_sub hl [2, 3, 4, 1, 0] rfl)
    · replace hf := (if_neg c9).symm.trans hf
      refine lv_aload_n hx hb dX8_go_44 rfl (lv_at hl 2 rfl) ?_
      refine gs_get hC hW in_X8 0 5 rfl rfl (by decide) fl_X8_16 rfl dX8_go_45 ?_
      refine lv_iload_n hx hb dX8_go_48 rfl (lv_at hl 1 rfl) ?_
      obtain ⟨v11, h11, hf⟩ := g_bnd hf
      refine gs_iald hC hW 3 h11 rfl dX8_go_49 ?_
      refine lv_goto (tgt := 59) hx hb dX8_go_50 (by decide) ?_
      exact b_X8_go_59 hC hf hW (lv_sub hl [2, 3, 4, 1, 0] rfl)
  · replace hf := (if_pos c6).symm.trans hf
    refine lv_aload_n hx hb dX8_go_7 rfl (lv_at hl 0 rfl) ?_
    refine lv_iconst (v := 1) hx hb dX8_go_8 (by decide) ?_
    refine gs_put (ws' := w_X8_go cI cZ cJ a_t a_t_parameters a_t_length a_t_newLength a_t_first a_t_anew a_t_table a_t_inputs a_t_at a_t_in a_t_back a_t_register a_t_output a_t_calls a_t_latest a_t_differ a_t_now a_t_met a_t_any a_t_number a_t_outAny a_t_out t_code t_own t_count t_tableSize t_given t_known t_news t_depth t_steps t_taken t_shown 1 t_parameters t_length t_newLength t_first t_anew t_table t_inputs t_at t_in t_back t_register t_output t_calls t_latest t_differ) hC hW in_X8 tyX8_ok nmX8 0 32 rfl rfl (by decide) fl_X8_206 rfl rfl rfl (Nat.le_of_ble_eq_true rfl) rfl dX8_go_9 (fun H locs hW => ?_)
    obtain rfl := Option.some.inj hf
    exact gs_rv hC hW rfl dX8_go_12

abbrev w_X8_run (cI cZ cJ : ClassId) (a_t : Nat) (a_t_parameters : Nat) (a_t_length : Nat) (a_t_newLength : Nat) (a_t_first : Nat) (a_t_anew : Nat) (a_t_table : Nat) (a_t_inputs : Nat) (a_t_at : Nat) (a_t_in : Nat) (a_t_back : Nat) (a_t_register : Nat) (a_t_output : Nat) (a_t_calls : Nat) (a_t_latest : Nat) (a_t_differ : Nat) (a_t_now : Nat) (a_t_met : Nat) (a_t_any : Nat) (a_t_number : Nat) (a_t_outAny : Nat) (a_t_out : Nat) (t_code : Int32) (t_own : Int32) (t_count : Int32) (t_tableSize : Int32) (t_given : Int32) (t_known : Int32) (t_news : Int32) (t_depth : Int32) (t_steps : Int32) (t_taken : Int32) (t_shown : Int32) (t_outcome : Int32) (t_parameters : Nat → Int32) (t_length : Nat → Int32) (t_newLength : Nat → Int32) (t_first : Nat → Int32) (t_anew : Nat → Int32) (t_table : Nat → Int32) (t_inputs : Nat → Int32) (t_at : Nat → Int32) (t_in : Nat → Int32) (t_back : Nat → Int32) (t_register : Nat → Int32) (t_output : Nat → Int32) (t_calls : Nat → Int32) (t_latest : Nat → Int32) (t_differ : Nat → Int32) : va_W := [(a_t, .inr (8, [.int t_code, .int t_own, .int t_count, .ref a_t_parameters, .ref a_t_length, .ref a_t_newLength, .ref a_t_first, .ref a_t_now, .ref a_t_anew, .int t_tableSize, .ref a_t_table, .int t_given, .ref a_t_inputs, .int t_known, .ref a_t_met, .ref a_t_any, .ref a_t_number, .int t_news, .ref a_t_outAny, .ref a_t_out, .int t_depth, .int t_steps, .int t_taken, .int t_shown, .ref a_t_at, .ref a_t_in, .ref a_t_back, .ref a_t_register, .ref a_t_output, .ref a_t_calls, .ref a_t_latest, .ref a_t_differ, .int t_outcome])), (a_t_parameters, .inl (cI, 12, .inl t_parameters)), (a_t_length, .inl (cI, 12, .inl t_length)), (a_t_newLength, .inl (cI, 12, .inl t_newLength)), (a_t_first, .inl (cI, 576, .inl t_first)), (a_t_anew, .inl (cI, 1152, .inl t_anew)), (a_t_table, .inl (cI, 4, .inl t_table)), (a_t_inputs, .inl (cI, 12, .inl t_inputs)), (a_t_at, .inl (cI, 11, .inl t_at)), (a_t_in, .inl (cI, 11, .inl t_in)), (a_t_back, .inl (cI, 11, .inl t_back)), (a_t_register, .inl (cI, 66, .inl t_register)), (a_t_output, .inl (cI, 40, .inl t_output)), (a_t_calls, .inl (cI, 12, .inl t_calls)), (a_t_latest, .inl (cI, 36, .inl t_latest)), (a_t_differ, .inl (cZ, 36, .inl t_differ))]
abbrev r_X8_run : Room := { frames := 5, cells := 0, slots := 0, locals := 117 }
def f_X8_run_139 (N : Nat) (x1 : Int32) (x2 : Int32) (t_own : Int32) (t_tableSize : Int32) (t_given : Int32) (t_known : Int32) (t_parameters : Nat → Int32) (t_length : Nat → Int32) (t_newLength : Nat → Int32) (t_first : Nat → Int32) (t_anew : Nat → Int32) (t_table : Nat → Int32) (t_inputs : Nat → Int32) : Nat → Int32 → Int32 → Int32 → Int32 → Int32 → Int32 → (Nat → Int32) → (Nat → Int32) → (Nat → Int32) → (Nat → Int32) → (Nat → Int32) → (Nat → Int32) → (Nat → Int32) → (Nat → Int32) → Option (Int32 × Int32 × Int32 × Int32 × Int32 × Int32 × Int32 × (Nat → Int32) × (Nat → Int32) × (Nat → Int32) × (Nat → Int32) × (Nat → Int32) × (Nat → Int32) × (Nat → Int32) × (Nat → Int32))
  | 0, _, _, _, _, _, _, _, _, _, _, _, _, _, _ => none
  | n + 1, t_code, t_depth, t_steps, t_taken, t_shown, t_outcome, t_at, t_in, t_back, t_register, t_output, t_calls, t_latest, t_differ => if t_outcome = (-1) then (f_X8_go N x1 x2 t_tableSize t_given t_depth t_steps t_taken t_shown t_outcome t_parameters t_length t_newLength t_first t_anew t_table t_inputs t_at t_in t_back t_register t_output t_calls t_latest t_differ).bind (fun o2 => f_X8_run_139 N x1 x2 t_own t_tableSize t_given t_known t_parameters t_length t_newLength t_first t_anew t_table t_inputs n t_code o2.1 o2.2.1 o2.2.2.1 o2.2.2.2.1 o2.2.2.2.2.1 o2.2.2.2.2.2.1 o2.2.2.2.2.2.2.1 o2.2.2.2.2.2.2.2.1 o2.2.2.2.2.2.2.2.2.1 o2.2.2.2.2.2.2.2.2.2.1 o2.2.2.2.2.2.2.2.2.2.2.1 o2.2.2.2.2.2.2.2.2.2.2.2.1 o2.2.2.2.2.2.2.2.2.2.2.2.2) else some (t_outcome, t_code, t_depth, t_steps, t_taken, t_shown, t_outcome, t_at, t_in, t_back, t_register, t_output, t_calls, t_latest, t_differ)
set_option maxHeartbeats 4000000 in
set_option maxRecDepth 100000 in
theorem b_X8_run_139 {p : Program} {l : Launch} {e : Env} {s : State} {m : MethodId} {args : Array Value} {below : List Frame} {meth : Method} {c : Code} {tA : Nat} {dC : Nat → ClassId} {dI : Nat → Nat → Nat} {cI cZ cJ : ClassId} {A : Nat → Prop} {a_t : Nat} {a_t_parameters : Nat} {a_t_length : Nat} {a_t_newLength : Nat} {a_t_first : Nat} {a_t_anew : Nat} {a_t_table : Nat} {a_t_inputs : Nat} {a_t_at : Nat} {a_t_in : Nat} {a_t_back : Nat} {a_t_register : Nat} {a_t_output : Nat} {a_t_calls : Nat} {a_t_latest : Nat} {a_t_differ : Nat} {a_t_now : Nat} {a_t_met : Nat} {a_t_any : Nat} {a_t_number : Nat} {a_t_outAny : Nat} {a_t_out : Nat} {x1 : Int32} {x2 : Int32} {t_own : Int32} {t_tableSize : Int32} {t_given : Int32} {t_known : Int32} {t_parameters : Nat → Int32} {t_length : Nat → Int32} {t_newLength : Nat → Int32} {t_first : Nat → Int32} {t_anew : Nat → Int32} {t_table : Nat → Int32} {t_inputs : Nat → Int32} {t_count : Int32} {t_news : Int32} {N : Nat} (hC : g_C p s m meth c args cX8_run 4 (some .int) RX8) :
    ∀ (n : Nat) (t_code : Int32) (t_depth : Int32) (t_steps : Int32) (t_taken : Int32) (t_shown : Int32) (t_outcome : Int32) (t_at : Nat → Int32) (t_in : Nat → Int32) (t_back : Nat → Int32) (t_register : Nat → Int32) (t_output : Nat → Int32) (t_calls : Nat → Int32) (t_latest : Nat → Int32) (t_differ : Nat → Int32) (out : Int32 × Int32 × Int32 × Int32 × Int32 × Int32 × Int32 × (Nat → Int32) × (Nat → Int32) × (Nat → Int32) × (Nat → Int32) × (Nat → Int32) × (Nat → Int32) × (Nat → Int32) × (Nat → Int32)), f_X8_run_139 N x1 x2 t_own t_tableSize t_given t_known t_parameters t_length t_newLength t_first t_anew t_table t_inputs n t_code t_depth t_steps t_taken t_shown t_outcome t_at t_in t_back t_register t_output t_calls t_latest t_differ = some out → ∀ (H : Heap) (locs : List Loc) (ls : Array Slot), g_W tA dC dI cI cZ cJ A s H locs (w_X8_run cI cZ cJ a_t a_t_parameters a_t_length a_t_newLength a_t_first a_t_anew a_t_table a_t_inputs a_t_at a_t_in a_t_back a_t_register a_t_output a_t_calls a_t_latest a_t_differ a_t_now a_t_met a_t_any a_t_number a_t_outAny a_t_out t_code t_own t_count t_tableSize t_given t_known t_news t_depth t_steps t_taken t_shown t_outcome t_parameters t_length t_newLength t_first t_anew t_table t_inputs t_at t_in t_back t_register t_output t_calls t_latest t_differ) → lv_has ls 4 [(0, .ref a_t), (1, .int x1), (2, .int x2)] → W p l e r_X8_run s m args below meth c H locs 0 0 (MQ below (g_Qi dC dI cI cZ cJ A (w_X8_run cI cZ cJ a_t a_t_parameters a_t_length a_t_newLength a_t_first a_t_anew a_t_table a_t_inputs a_t_at a_t_in a_t_back a_t_register a_t_output a_t_calls a_t_latest a_t_differ a_t_now a_t_met a_t_any a_t_number a_t_outAny a_t_out out.2.1 t_own t_count t_tableSize t_given t_known t_news out.2.2.1 out.2.2.2.1 out.2.2.2.2.1 out.2.2.2.2.2.1 out.2.2.2.2.2.2.1 t_parameters t_length t_newLength t_first t_anew t_table t_inputs out.2.2.2.2.2.2.2.1 out.2.2.2.2.2.2.2.2.1 out.2.2.2.2.2.2.2.2.2.1 out.2.2.2.2.2.2.2.2.2.2.1 out.2.2.2.2.2.2.2.2.2.2.2.1 out.2.2.2.2.2.2.2.2.2.2.2.2.1 out.2.2.2.2.2.2.2.2.2.2.2.2.2.1 out.2.2.2.2.2.2.2.2.2.2.2.2.2.2) out.1) args s 0 0 A) (F0 m 139 ls []) := by
  have hx := hC.1
  have hb := hC.2.1
  have hown := hC.2.2.2.2.1
  have hts := hC.2.2.2.2.2.1
  intro n
  induction n with
  | zero =>
    intro t_code t_depth t_steps t_taken t_shown t_outcome t_at t_in t_back t_register t_output t_calls t_latest t_differ out hf
    exact g_no hf
  | succ n ih =>
    intro t_code t_depth t_steps t_taken t_shown t_outcome t_at t_in t_back t_register t_output t_calls t_latest t_differ out hf H locs ls hW hl
    refine lv_aload_n hx hb dX8_run_139 rfl (lv_at hl 0 rfl) ?_
    refine gs_get hC hW in_X8 0 32 rfl rfl (by decide) fl_X8_206 rfl dX8_run_140 ?_
    refine lv_iconst (v := (-1)) hx hb dX8_run_143 (by decide) ?_
    refine lv_icmp_ne (tgt := 156) hx hb dX8_run_144 (by decide) (fun c1 => ?_) (fun c1 => ?_)
    · replace hf := (if_neg c1).symm.trans hf
      refine lv_aload_n hx hb dX8_run_156 rfl (lv_at hl 0 rfl) ?_
      refine gs_get hC hW in_X8 0 32 rfl rfl (by decide) fl_X8_206 rfl dX8_run_157 ?_
      obtain rfl := Option.some.inj hf
      exact gs_ri hC hW rfl dX8_run_160
    · replace hf := (if_pos c1).symm.trans hf
      refine lv_aload_n hx hb dX8_run_147 rfl (lv_at hl 0 rfl) ?_
      refine lv_iload_n hx hb dX8_run_148 rfl (lv_at hl 1 rfl) ?_
      refine lv_iload_n hx hb dX8_run_149 rfl (lv_at hl 2 rfl) ?_
      obtain ⟨o2, h2, hf⟩ := g_bnd hf
      refine gs_callVv (ws' := w_X8_run cI cZ cJ a_t a_t_parameters a_t_length a_t_newLength a_t_first a_t_anew a_t_table a_t_inputs a_t_at a_t_in a_t_back a_t_register a_t_output a_t_calls a_t_latest a_t_differ a_t_now a_t_met a_t_any a_t_number a_t_outAny a_t_out t_code t_own t_count t_tableSize t_given t_known t_news o2.1 o2.2.1 o2.2.2.1 o2.2.2.2.1 o2.2.2.2.2.1 t_parameters t_length t_newLength t_first t_anew t_table t_inputs o2.2.2.2.2.2.1 o2.2.2.2.2.2.2.1 o2.2.2.2.2.2.2.2.1 o2.2.2.2.2.2.2.2.2.1 o2.2.2.2.2.2.2.2.2.2.1 o2.2.2.2.2.2.2.2.2.2.2.1 o2.2.2.2.2.2.2.2.2.2.2.2.1 o2.2.2.2.2.2.2.2.2.2.2.2.2) hC hW (k_X8_go l tA dC dI cI cZ cJ a_t a_t_parameters a_t_length a_t_newLength a_t_first a_t_anew a_t_table a_t_inputs a_t_at a_t_in a_t_back a_t_register a_t_output a_t_calls a_t_latest a_t_differ a_t_now a_t_met a_t_any a_t_number a_t_outAny a_t_out N x1 x2 t_code t_own t_count t_tableSize t_given t_known t_news t_depth t_steps t_taken t_shown t_outcome t_parameters t_length t_newLength t_first t_anew t_table t_inputs t_at t_in t_back t_register t_output t_calls t_latest t_differ _ h2) yk_X8_go lk_X8_209 iv_X8_go ⟨rfl, rfl⟩ ⟨Nat.le_of_ble_eq_true rfl, Nat.le_of_ble_eq_true rfl⟩ hl.1 0 rfl rfl [0, 1, 2, 3, 4, 5, 6, 7, 8, 9, 10, 11, 12, 13, 14, 15] [] [0, 1, 2, 3, 4, 5, 6, 7, 8, 9, 10, 11, 12, 13, 14, 15] rfl rfl rfl rfl (by decide) rfl rfl rfl rfl (Nat.le_of_ble_eq_true rfl) dX8_run_150 ⟨Nat.zero_le _, Nat.zero_le _⟩ (fun H locs hW => ?_)
      refine lv_goto (tgt := 139) hx hb dX8_run_153 (by decide) ?_
      exact ih _ _ _ _ _ _ _ _ _ _ _ _ _ _ _ hf _ _ _ hW (lv_sub hl [0, 1, 2] rfl)
def f_X8_run_94 (N : Nat) (x1 : Int32) (x2 : Int32) (t_own : Int32) (t_tableSize : Int32) (t_given : Int32) (t_known : Int32) (t_parameters : Nat → Int32) (t_length : Nat → Int32) (t_newLength : Nat → Int32) (t_first : Nat → Int32) (t_anew : Nat → Int32) (t_table : Nat → Int32) (t_inputs : Nat → Int32) : Nat → Int32 → Int32 → Int32 → Int32 → Int32 → Int32 → Int32 → (Nat → Int32) → (Nat → Int32) → (Nat → Int32) → (Nat → Int32) → (Nat → Int32) → (Nat → Int32) → (Nat → Int32) → (Nat → Int32) → Option (Int32 × Int32 × Int32 × Int32 × Int32 × Int32 × Int32 × (Nat → Int32) × (Nat → Int32) × (Nat → Int32) × (Nat → Int32) × (Nat → Int32) × (Nat → Int32) × (Nat → Int32) × (Nat → Int32))
  | 0, _, _, _, _, _, _, _, _, _, _, _, _, _, _, _ => none
  | n + 1, x3, t_code, t_depth, t_steps, t_taken, t_shown, t_outcome, t_at, t_in, t_back, t_register, t_output, t_calls, t_latest, t_differ => if 36 ≤ x3 then (f_X8_begin N x1 0 (-1) t_depth t_parameters t_first t_anew t_at t_in t_back t_register t_calls t_latest t_differ).bind (fun o4 => if o4.1 = 0 then f_X8_run_139 N x1 x2 t_own t_tableSize t_given t_known t_parameters t_length t_newLength t_first t_anew t_table t_inputs N t_code o4.2.1 t_steps t_taken t_shown 2 o4.2.2.1 o4.2.2.2.1 o4.2.2.2.2.1 o4.2.2.2.2.2.1 t_output o4.2.2.2.2.2.2.1 o4.2.2.2.2.2.2.2.1 o4.2.2.2.2.2.2.2.2 else f_X8_run_139 N x1 x2 t_own t_tableSize t_given t_known t_parameters t_length t_newLength t_first t_anew t_table t_inputs N t_code o4.2.1 t_steps t_taken t_shown (-1) o4.2.2.1 o4.2.2.2.1 o4.2.2.2.2.1 o4.2.2.2.2.2.1 t_output o4.2.2.2.2.2.2.1 o4.2.2.2.2.2.2.2.1 o4.2.2.2.2.2.2.2.2) else (g_wr 36 t_latest x3 0).bind (fun s6 => (g_wz 36 t_differ x3 0).bind (fun s7 => f_X8_run_94 N x1 x2 t_own t_tableSize t_given t_known t_parameters t_length t_newLength t_first t_anew t_table t_inputs n (x3 + 1) t_code t_depth t_steps t_taken t_shown t_outcome t_at t_in t_back t_register t_output t_calls s6 s7))
set_option maxHeartbeats 4000000 in
set_option maxRecDepth 100000 in
theorem b_X8_run_94 {p : Program} {l : Launch} {e : Env} {s : State} {m : MethodId} {args : Array Value} {below : List Frame} {meth : Method} {c : Code} {tA : Nat} {dC : Nat → ClassId} {dI : Nat → Nat → Nat} {cI cZ cJ : ClassId} {A : Nat → Prop} {a_t : Nat} {a_t_parameters : Nat} {a_t_length : Nat} {a_t_newLength : Nat} {a_t_first : Nat} {a_t_anew : Nat} {a_t_table : Nat} {a_t_inputs : Nat} {a_t_at : Nat} {a_t_in : Nat} {a_t_back : Nat} {a_t_register : Nat} {a_t_output : Nat} {a_t_calls : Nat} {a_t_latest : Nat} {a_t_differ : Nat} {a_t_now : Nat} {a_t_met : Nat} {a_t_any : Nat} {a_t_number : Nat} {a_t_outAny : Nat} {a_t_out : Nat} {x1 : Int32} {x2 : Int32} {t_own : Int32} {t_tableSize : Int32} {t_given : Int32} {t_known : Int32} {t_parameters : Nat → Int32} {t_length : Nat → Int32} {t_newLength : Nat → Int32} {t_first : Nat → Int32} {t_anew : Nat → Int32} {t_table : Nat → Int32} {t_inputs : Nat → Int32} {t_count : Int32} {t_news : Int32} {N : Nat} (hC : g_C p s m meth c args cX8_run 4 (some .int) RX8) :
    ∀ (n : Nat) (x3 : Int32) (t_code : Int32) (t_depth : Int32) (t_steps : Int32) (t_taken : Int32) (t_shown : Int32) (t_outcome : Int32) (t_at : Nat → Int32) (t_in : Nat → Int32) (t_back : Nat → Int32) (t_register : Nat → Int32) (t_output : Nat → Int32) (t_calls : Nat → Int32) (t_latest : Nat → Int32) (t_differ : Nat → Int32) (out : Int32 × Int32 × Int32 × Int32 × Int32 × Int32 × Int32 × (Nat → Int32) × (Nat → Int32) × (Nat → Int32) × (Nat → Int32) × (Nat → Int32) × (Nat → Int32) × (Nat → Int32) × (Nat → Int32)), f_X8_run_94 N x1 x2 t_own t_tableSize t_given t_known t_parameters t_length t_newLength t_first t_anew t_table t_inputs n x3 t_code t_depth t_steps t_taken t_shown t_outcome t_at t_in t_back t_register t_output t_calls t_latest t_differ = some out → ∀ (H : Heap) (locs : List Loc) (ls : Array Slot), g_W tA dC dI cI cZ cJ A s H locs (w_X8_run cI cZ cJ a_t a_t_parameters a_t_length a_t_newLength a_t_first a_t_anew a_t_table a_t_inputs a_t_at a_t_in a_t_back a_t_register a_t_output a_t_calls a_t_latest a_t_differ a_t_now a_t_met a_t_any a_t_number a_t_outAny a_t_out t_code t_own t_count t_tableSize t_given t_known t_news t_depth t_steps t_taken t_shown t_outcome t_parameters t_length t_newLength t_first t_anew t_table t_inputs t_at t_in t_back t_register t_output t_calls t_latest t_differ) → lv_has ls 4 [(0, .ref a_t), (1, .int x1), (2, .int x2), (3, .int x3)] → W p l e r_X8_run s m args below meth c H locs 0 0 (MQ below (g_Qi dC dI cI cZ cJ A (w_X8_run cI cZ cJ a_t a_t_parameters a_t_length a_t_newLength a_t_first a_t_anew a_t_table a_t_inputs a_t_at a_t_in a_t_back a_t_register a_t_output a_t_calls a_t_latest a_t_differ a_t_now a_t_met a_t_any a_t_number a_t_outAny a_t_out out.2.1 t_own t_count t_tableSize t_given t_known t_news out.2.2.1 out.2.2.2.1 out.2.2.2.2.1 out.2.2.2.2.2.1 out.2.2.2.2.2.2.1 t_parameters t_length t_newLength t_first t_anew t_table t_inputs out.2.2.2.2.2.2.2.1 out.2.2.2.2.2.2.2.2.1 out.2.2.2.2.2.2.2.2.2.1 out.2.2.2.2.2.2.2.2.2.2.1 out.2.2.2.2.2.2.2.2.2.2.2.1 out.2.2.2.2.2.2.2.2.2.2.2.2.1 out.2.2.2.2.2.2.2.2.2.2.2.2.2.1 out.2.2.2.2.2.2.2.2.2.2.2.2.2.2) out.1) args s 0 0 A) (F0 m 94 ls []) := by
  have hx := hC.1
  have hb := hC.2.1
  have hown := hC.2.2.2.2.1
  have hts := hC.2.2.2.2.2.1
  intro n
  induction n with
  | zero =>
    intro x3 t_code t_depth t_steps t_taken t_shown t_outcome t_at t_in t_back t_register t_output t_calls t_latest t_differ out hf
    exact g_no hf
  | succ n ih =>
    intro x3 t_code t_depth t_steps t_taken t_shown t_outcome t_at t_in t_back t_register t_output t_calls t_latest t_differ out hf H locs ls hW hl
    refine lv_iload_n hx hb dX8_run_94 rfl (lv_at hl 3 rfl) ?_
    refine lv_bipush (v := 36) hx hb dX8_run_95 (by decide) ?_
    refine lv_icmp_ge (tgt := 120) hx hb dX8_run_97 (by decide) (fun c3 => ?_) (fun c3 => ?_)
    · replace hf := (if_pos c3).symm.trans hf
      refine lv_aload_n hx hb dX8_run_120 rfl (lv_at hl 0 rfl) ?_
      refine lv_aload_n hx hb dX8_run_121 rfl (lv_at hl 0 rfl) ?_
      refine lv_iload_n hx hb dX8_run_122 rfl (lv_at hl 1 rfl) ?_
      refine lv_iconst (v := 0) hx hb dX8_run_123 (by decide) ?_
      refine lv_iconst (v := (-1)) hx hb dX8_run_124 (by decide) ?_
      obtain ⟨o4, h4, hf⟩ := g_bnd hf
      refine gs_callVi (ws' := w_X8_run cI cZ cJ a_t a_t_parameters a_t_length a_t_newLength a_t_first a_t_anew a_t_table a_t_inputs a_t_at a_t_in a_t_back a_t_register a_t_output a_t_calls a_t_latest a_t_differ a_t_now a_t_met a_t_any a_t_number a_t_outAny a_t_out t_code t_own t_count t_tableSize t_given t_known t_news o4.2.1 t_steps t_taken t_shown t_outcome t_parameters t_length t_newLength t_first t_anew t_table t_inputs o4.2.2.1 o4.2.2.2.1 o4.2.2.2.2.1 o4.2.2.2.2.2.1 t_output o4.2.2.2.2.2.2.1 o4.2.2.2.2.2.2.2.1 o4.2.2.2.2.2.2.2.2) hC hW (k_X8_begin l tA dC dI cI cZ cJ a_t a_t_parameters a_t_first a_t_anew a_t_at a_t_in a_t_back a_t_register a_t_calls a_t_latest a_t_differ a_t_length a_t_newLength a_t_now a_t_table a_t_inputs a_t_met a_t_any a_t_number a_t_outAny a_t_out a_t_output N x1 0 (-1) t_code t_own t_count t_tableSize t_given t_known t_news t_depth t_steps t_taken t_shown t_outcome t_parameters t_first t_anew t_at t_in t_back t_register t_calls t_latest t_differ _ h4) yk_X8_begin lk_X8_199 iv_X8_begin ⟨rfl, rfl⟩ ⟨Nat.le_of_ble_eq_true rfl, Nat.le_of_ble_eq_true rfl⟩ hl.1 0 rfl rfl [0, 1, 4, 5, 8, 9, 10, 11, 13, 14, 15] [2, 3, 6, 7, 12] [5, 6, 0, 1, 7, 8, 2, 3, 9, 10, 11, 12, 4, 13, 14, 15] rfl rfl rfl rfl (by decide) rfl rfl rfl rfl (Nat.le_of_ble_eq_true rfl) dX8_run_125 ⟨Nat.zero_le _, Nat.zero_le _⟩ (fun H locs hW => ?_)
      refine lv_if_eq (tgt := 135) hx hb dX8_run_128 (by decide) (fun c5 => ?_) (fun c5 => ?_)
      · replace hf := (if_pos c5).symm.trans hf
        refine lv_iconst (v := 2) hx hb dX8_run_135 (by decide) ?_
        refine gs_put (ws' := w_X8_run cI cZ cJ a_t a_t_parameters a_t_length a_t_newLength a_t_first a_t_anew a_t_table a_t_inputs a_t_at a_t_in a_t_back a_t_register a_t_output a_t_calls a_t_latest a_t_differ a_t_now a_t_met a_t_any a_t_number a_t_outAny a_t_out t_code t_own t_count t_tableSize t_given t_known t_news o4.2.1 t_steps t_taken t_shown 2 t_parameters t_length t_newLength t_first t_anew t_table t_inputs o4.2.2.1 o4.2.2.2.1 o4.2.2.2.2.1 o4.2.2.2.2.2.1 t_output o4.2.2.2.2.2.2.1 o4.2.2.2.2.2.2.2.1 o4.2.2.2.2.2.2.2.2) hC hW in_X8 tyX8_ok nmX8 0 32 rfl rfl (by decide) fl_X8_206 rfl rfl rfl (Nat.le_of_ble_eq_true rfl) rfl dX8_run_136 (fun H locs hW => ?_)
        exact b_X8_run_139 hC N _ _ _ _ _ _ _ _ _ _ _ _ _ _ _ hf _ _ _ hW (lv_sub hl [0, 1, 2] rfl)
      · replace hf := (if_neg c5).symm.trans hf
        refine lv_iconst (v := (-1)) hx hb dX8_run_131 (by decide) ?_
        refine lv_goto (tgt := 136) hx hb dX8_run_132 (by decide) ?_
        refine gs_put (ws' := w_X8_run cI cZ cJ a_t a_t_parameters a_t_length a_t_newLength a_t_first a_t_anew a_t_table a_t_inputs a_t_at a_t_in a_t_back a_t_register a_t_output a_t_calls a_t_latest a_t_differ a_t_now a_t_met a_t_any a_t_number a_t_outAny a_t_out t_code t_own t_count t_tableSize t_given t_known t_news o4.2.1 t_steps t_taken t_shown (-1) t_parameters t_length t_newLength t_first t_anew t_table t_inputs o4.2.2.1 o4.2.2.2.1 o4.2.2.2.2.1 o4.2.2.2.2.2.1 t_output o4.2.2.2.2.2.2.1 o4.2.2.2.2.2.2.2.1 o4.2.2.2.2.2.2.2.2) hC hW in_X8 tyX8_ok nmX8 0 32 rfl rfl (by decide) fl_X8_206 rfl rfl rfl (Nat.le_of_ble_eq_true rfl) rfl dX8_run_136 (fun H locs hW => ?_)
        exact b_X8_run_139 hC N _ _ _ _ _ _ _ _ _ _ _ _ _ _ _ hf _ _ _ hW (lv_sub hl [0, 1, 2] rfl)
    · replace hf := (if_neg c3).symm.trans hf
      refine lv_aload_n hx hb dX8_run_100 rfl (lv_at hl 0 rfl) ?_
      refine gs_get hC hW in_X8 0 30 rfl rfl (by decide) fl_X8_68 rfl dX8_run_101 ?_
      refine lv_iload_n hx hb dX8_run_104 rfl (lv_at hl 3 rfl) ?_
      refine lv_iconst (v := 0) hx hb dX8_run_105 (by decide) ?_
      obtain ⟨s6, h6, hf⟩ := g_bnd hf
      refine gs_iast (ws' := w_X8_run cI cZ cJ a_t a_t_parameters a_t_length a_t_newLength a_t_first a_t_anew a_t_table a_t_inputs a_t_at a_t_in a_t_back a_t_register a_t_output a_t_calls a_t_latest a_t_differ a_t_now a_t_met a_t_any a_t_number a_t_outAny a_t_out t_code t_own t_count t_tableSize t_given t_known t_news t_depth t_steps t_taken t_shown t_outcome t_parameters t_length t_newLength t_first t_anew t_table t_inputs t_at t_in t_back t_register t_output t_calls s6 t_differ) hC hW 14 h6 rfl rfl dX8_run_106 (fun H locs hW => ?_)
      refine lv_aload_n hx hb dX8_run_107 rfl (lv_at hl 0 rfl) ?_
      refine gs_get hC hW in_X8 0 31 rfl rfl (by decide) fl_X8_71 rfl dX8_run_108 ?_
      refine lv_iload_n hx hb dX8_run_111 rfl (lv_at hl 3 rfl) ?_
      refine lv_iconst (v := 0) hx hb dX8_run_112 (by decide) ?_
      obtain ⟨s7, h7, hf⟩ := g_bnd hf
      refine gs_zast (ws' := w_X8_run cI cZ cJ a_t a_t_parameters a_t_length a_t_newLength a_t_first a_t_anew a_t_table a_t_inputs a_t_at a_t_in a_t_back a_t_register a_t_output a_t_calls a_t_latest a_t_differ a_t_now a_t_met a_t_any a_t_number a_t_outAny a_t_out t_code t_own t_count t_tableSize t_given t_known t_news t_depth t_steps t_taken t_shown t_outcome t_parameters t_length t_newLength t_first t_anew t_table t_inputs t_at t_in t_back t_register t_output t_calls s6 s7) hC hW 15 h7 rfl rfl dX8_run_113 (fun H locs hW => ?_)
      refine lv_iinc (v := x3 + 1) (lv' := [(3, .int (x3 + 1)), (0, .ref a_t), (1, .int x1), (2, .int x2)]) hx hb dX8_run_114 hl (k := 3) rfl rfl (by decide) rfl (fun ls hl => ?_)
      refine lv_goto (tgt := 94) hx hb dX8_run_117 (by decide) ?_
      exact ih _ _ _ _ _ _ _ _ _ _ _ _ _ _ _ _ hf _ _ _ hW (lv_sub hl [1, 2, 3, 0] rfl)
def f_X8_run_73 (N : Nat) (x1 : Int32) (x2 : Int32) (t_own : Int32) (t_tableSize : Int32) (t_given : Int32) (t_known : Int32) (t_parameters : Nat → Int32) (t_length : Nat → Int32) (t_newLength : Nat → Int32) (t_first : Nat → Int32) (t_anew : Nat → Int32) (t_table : Nat → Int32) (t_inputs : Nat → Int32) : Nat → Int32 → Int32 → Int32 → Int32 → Int32 → Int32 → Int32 → (Nat → Int32) → (Nat → Int32) → (Nat → Int32) → (Nat → Int32) → (Nat → Int32) → (Nat → Int32) → (Nat → Int32) → (Nat → Int32) → Option (Int32 × Int32 × Int32 × Int32 × Int32 × Int32 × Int32 × (Nat → Int32) × (Nat → Int32) × (Nat → Int32) × (Nat → Int32) × (Nat → Int32) × (Nat → Int32) × (Nat → Int32) × (Nat → Int32))
  | 0, _, _, _, _, _, _, _, _, _, _, _, _, _, _, _ => none
  | n + 1, x3, t_code, t_depth, t_steps, t_taken, t_shown, t_outcome, t_at, t_in, t_back, t_register, t_output, t_calls, t_latest, t_differ => if 12 ≤ x3 then f_X8_run_94 N x1 x2 t_own t_tableSize t_given t_known t_parameters t_length t_newLength t_first t_anew t_table t_inputs N 0 t_code t_depth t_steps t_taken t_shown t_outcome t_at t_in t_back t_register t_output t_calls t_latest t_differ else (g_wr 12 t_calls x3 0).bind (fun s9 => f_X8_run_73 N x1 x2 t_own t_tableSize t_given t_known t_parameters t_length t_newLength t_first t_anew t_table t_inputs n (x3 + 1) t_code t_depth t_steps t_taken t_shown t_outcome t_at t_in t_back t_register t_output s9 t_latest t_differ)
set_option maxHeartbeats 4000000 in
set_option maxRecDepth 100000 in
theorem b_X8_run_73 {p : Program} {l : Launch} {e : Env} {s : State} {m : MethodId} {args : Array Value} {below : List Frame} {meth : Method} {c : Code} {tA : Nat} {dC : Nat → ClassId} {dI : Nat → Nat → Nat} {cI cZ cJ : ClassId} {A : Nat → Prop} {a_t : Nat} {a_t_parameters : Nat} {a_t_length : Nat} {a_t_newLength : Nat} {a_t_first : Nat} {a_t_anew : Nat} {a_t_table : Nat} {a_t_inputs : Nat} {a_t_at : Nat} {a_t_in : Nat} {a_t_back : Nat} {a_t_register : Nat} {a_t_output : Nat} {a_t_calls : Nat} {a_t_latest : Nat} {a_t_differ : Nat} {a_t_now : Nat} {a_t_met : Nat} {a_t_any : Nat} {a_t_number : Nat} {a_t_outAny : Nat} {a_t_out : Nat} {x1 : Int32} {x2 : Int32} {t_own : Int32} {t_tableSize : Int32} {t_given : Int32} {t_known : Int32} {t_parameters : Nat → Int32} {t_length : Nat → Int32} {t_newLength : Nat → Int32} {t_first : Nat → Int32} {t_anew : Nat → Int32} {t_table : Nat → Int32} {t_inputs : Nat → Int32} {t_count : Int32} {t_news : Int32} {N : Nat} (hC : g_C p s m meth c args cX8_run 4 (some .int) RX8) :
    ∀ (n : Nat) (x3 : Int32) (t_code : Int32) (t_depth : Int32) (t_steps : Int32) (t_taken : Int32) (t_shown : Int32) (t_outcome : Int32) (t_at : Nat → Int32) (t_in : Nat → Int32) (t_back : Nat → Int32) (t_register : Nat → Int32) (t_output : Nat → Int32) (t_calls : Nat → Int32) (t_latest : Nat → Int32) (t_differ : Nat → Int32) (out : Int32 × Int32 × Int32 × Int32 × Int32 × Int32 × Int32 × (Nat → Int32) × (Nat → Int32) × (Nat → Int32) × (Nat → Int32) × (Nat → Int32) × (Nat → Int32) × (Nat → Int32) × (Nat → Int32)), f_X8_run_73 N x1 x2 t_own t_tableSize t_given t_known t_parameters t_length t_newLength t_first t_anew t_table t_inputs n x3 t_code t_depth t_steps t_taken t_shown t_outcome t_at t_in t_back t_register t_output t_calls t_latest t_differ = some out → ∀ (H : Heap) (locs : List Loc) (ls : Array Slot), g_W tA dC dI cI cZ cJ A s H locs (w_X8_run cI cZ cJ a_t a_t_parameters a_t_length a_t_newLength a_t_first a_t_anew a_t_table a_t_inputs a_t_at a_t_in a_t_back a_t_register a_t_output a_t_calls a_t_latest a_t_differ a_t_now a_t_met a_t_any a_t_number a_t_outAny a_t_out t_code t_own t_count t_tableSize t_given t_known t_news t_depth t_steps t_taken t_shown t_outcome t_parameters t_length t_newLength t_first t_anew t_table t_inputs t_at t_in t_back t_register t_output t_calls t_latest t_differ) → lv_has ls 4 [(0, .ref a_t), (1, .int x1), (2, .int x2), (3, .int x3)] → W p l e r_X8_run s m args below meth c H locs 0 0 (MQ below (g_Qi dC dI cI cZ cJ A (w_X8_run cI cZ cJ a_t a_t_parameters a_t_length a_t_newLength a_t_first a_t_anew a_t_table a_t_inputs a_t_at a_t_in a_t_back a_t_register a_t_output a_t_calls a_t_latest a_t_differ a_t_now a_t_met a_t_any a_t_number a_t_outAny a_t_out out.2.1 t_own t_count t_tableSize t_given t_known t_news out.2.2.1 out.2.2.2.1 out.2.2.2.2.1 out.2.2.2.2.2.1 out.2.2.2.2.2.2.1 t_parameters t_length t_newLength t_first t_anew t_table t_inputs out.2.2.2.2.2.2.2.1 out.2.2.2.2.2.2.2.2.1 out.2.2.2.2.2.2.2.2.2.1 out.2.2.2.2.2.2.2.2.2.2.1 out.2.2.2.2.2.2.2.2.2.2.2.1 out.2.2.2.2.2.2.2.2.2.2.2.2.1 out.2.2.2.2.2.2.2.2.2.2.2.2.2.1 out.2.2.2.2.2.2.2.2.2.2.2.2.2.2) out.1) args s 0 0 A) (F0 m 73 ls []) := by
  have hx := hC.1
  have hb := hC.2.1
  have hown := hC.2.2.2.2.1
  have hts := hC.2.2.2.2.2.1
  intro n
  induction n with
  | zero =>
    intro x3 t_code t_depth t_steps t_taken t_shown t_outcome t_at t_in t_back t_register t_output t_calls t_latest t_differ out hf
    exact g_no hf
  | succ n ih =>
    intro x3 t_code t_depth t_steps t_taken t_shown t_outcome t_at t_in t_back t_register t_output t_calls t_latest t_differ out hf H locs ls hW hl
    refine lv_iload_n hx hb dX8_run_73 rfl (lv_at hl 3 rfl) ?_
    refine lv_bipush (v := 12) hx hb dX8_run_74 (by decide) ?_
    refine lv_icmp_ge (tgt := 92) hx hb dX8_run_76 (by decide) (fun c8 => ?_) (fun c8 => ?_)
    · replace hf := (if_pos c8).symm.trans hf
      refine lv_iconst (v := 0) hx hb dX8_run_92 (by decide) ?_
      refine lv_istore_n (lv' := [(3, .int 0), (0, .ref a_t), (1, .int x1), (2, .int x2)]) hx hb dX8_run_93 rfl hl (by decide) rfl (fun ls hl => ?_)
      exact b_X8_run_94 hC N _ _ _ _ _ _ _ _ _ _ _ _ _ _ _ _ hf _ _ _ hW (lv_sub hl [1, 2, 3, 0] rfl)
    · replace hf := (if_neg c8).symm.trans hf
      refine lv_aload_n hx hb dX8_run_79 rfl (lv_at hl 0 rfl) ?_
      refine gs_get hC hW in_X8 0 29 rfl rfl (by decide) fl_X8_65 rfl dX8_run_80 ?_
      refine lv_iload_n hx hb dX8_run_83 rfl (lv_at hl 3 rfl) ?_
      refine lv_iconst (v := 0) hx hb dX8_run_84 (by decide) ?_
      obtain ⟨s9, h9, hf⟩ := g_bnd hf
      refine gs_iast (ws' := w_X8_run cI cZ cJ a_t a_t_parameters a_t_length a_t_newLength a_t_first a_t_anew a_t_table a_t_inputs a_t_at a_t_in a_t_back a_t_register a_t_output a_t_calls a_t_latest a_t_differ a_t_now a_t_met a_t_any a_t_number a_t_outAny a_t_out t_code t_own t_count t_tableSize t_given t_known t_news t_depth t_steps t_taken t_shown t_outcome t_parameters t_length t_newLength t_first t_anew t_table t_inputs t_at t_in t_back t_register t_output s9 t_latest t_differ) hC hW 13 h9 rfl rfl dX8_run_85 (fun H locs hW => ?_)
      refine lv_iinc (v := x3 + 1) (lv' := [(3, .int (x3 + 1)), (0, .ref a_t), (1, .int x1), (2, .int x2)]) hx hb dX8_run_86 hl (k := 3) rfl rfl (by decide) rfl (fun ls hl => ?_)
      refine lv_goto (tgt := 73) hx hb dX8_run_89 (by decide) ?_
      exact ih _ _ _ _ _ _ _ _ _ _ _ _ _ _ _ _ hf _ _ _ hW (lv_sub hl [1, 2, 3, 0] rfl)
def f_X8_run_39 (N : Nat) (x1 : Int32) (x2 : Int32) (t_own : Int32) (t_tableSize : Int32) (t_given : Int32) (t_known : Int32) (t_parameters : Nat → Int32) (t_length : Nat → Int32) (t_newLength : Nat → Int32) (t_first : Nat → Int32) (t_anew : Nat → Int32) (t_table : Nat → Int32) (t_inputs : Nat → Int32) (z0 : Int32) (t_code : Int32) (t_depth : Int32) (t_steps : Int32) (t_taken : Int32) (t_shown : Int32) (t_outcome : Int32) (t_at : Nat → Int32) (t_in : Nat → Int32) (t_back : Nat → Int32) (t_register : Nat → Int32) (t_output : Nat → Int32) (t_calls : Nat → Int32) (t_latest : Nat → Int32) (t_differ : Nat → Int32) : Option (Int32 × Int32 × Int32 × Int32 × Int32 × Int32 × Int32 × (Nat → Int32) × (Nat → Int32) × (Nat → Int32) × (Nat → Int32) × (Nat → Int32) × (Nat → Int32) × (Nat → Int32) × (Nat → Int32)) := if z0 ≤ 0 then f_X8_run_73 N x1 x2 t_own t_tableSize t_given t_known t_parameters t_length t_newLength t_first t_anew t_table t_inputs N 0 z0 0 0 0 0 t_outcome t_at t_in t_back t_register t_output t_calls t_latest t_differ else some (0, z0, t_depth, t_steps, t_taken, t_shown, t_outcome, t_at, t_in, t_back, t_register, t_output, t_calls, t_latest, t_differ)
set_option maxHeartbeats 4000000 in
set_option maxRecDepth 100000 in
theorem b_X8_run_39 {p : Program} {l : Launch} {e : Env} {s : State} {m : MethodId} {args : Array Value} {below : List Frame} {meth : Method} {c : Code} {tA : Nat} {dC : Nat → ClassId} {dI : Nat → Nat → Nat} {cI cZ cJ : ClassId} {A : Nat → Prop} {a_t : Nat} {a_t_parameters : Nat} {a_t_length : Nat} {a_t_newLength : Nat} {a_t_first : Nat} {a_t_anew : Nat} {a_t_table : Nat} {a_t_inputs : Nat} {a_t_at : Nat} {a_t_in : Nat} {a_t_back : Nat} {a_t_register : Nat} {a_t_output : Nat} {a_t_calls : Nat} {a_t_latest : Nat} {a_t_differ : Nat} {a_t_now : Nat} {a_t_met : Nat} {a_t_any : Nat} {a_t_number : Nat} {a_t_outAny : Nat} {a_t_out : Nat} {x1 : Int32} {x2 : Int32} {t_own : Int32} {t_tableSize : Int32} {t_given : Int32} {t_known : Int32} {t_parameters : Nat → Int32} {t_length : Nat → Int32} {t_newLength : Nat → Int32} {t_first : Nat → Int32} {t_anew : Nat → Int32} {t_table : Nat → Int32} {t_inputs : Nat → Int32} {t_count : Int32} {t_news : Int32} {N : Nat} {z0 : Int32} {t_code : Int32} {t_depth : Int32} {t_steps : Int32} {t_taken : Int32} {t_shown : Int32} {t_outcome : Int32} {t_at : Nat → Int32} {t_in : Nat → Int32} {t_back : Nat → Int32} {t_register : Nat → Int32} {t_output : Nat → Int32} {t_calls : Nat → Int32} {t_latest : Nat → Int32} {t_differ : Nat → Int32} {out : Int32 × Int32 × Int32 × Int32 × Int32 × Int32 × Int32 × (Nat → Int32) × (Nat → Int32) × (Nat → Int32) × (Nat → Int32) × (Nat → Int32) × (Nat → Int32) × (Nat → Int32) × (Nat → Int32)} (hC : g_C p s m meth c args cX8_run 4 (some .int) RX8) (hf : f_X8_run_39 N x1 x2 t_own t_tableSize t_given t_known t_parameters t_length t_newLength t_first t_anew t_table t_inputs z0 t_code t_depth t_steps t_taken t_shown t_outcome t_at t_in t_back t_register t_output t_calls t_latest t_differ = some out) {H : Heap} {locs : List Loc} {ls : Array Slot} (hW : g_W tA dC dI cI cZ cJ A s H locs (w_X8_run cI cZ cJ a_t a_t_parameters a_t_length a_t_newLength a_t_first a_t_anew a_t_table a_t_inputs a_t_at a_t_in a_t_back a_t_register a_t_output a_t_calls a_t_latest a_t_differ a_t_now a_t_met a_t_any a_t_number a_t_outAny a_t_out t_code t_own t_count t_tableSize t_given t_known t_news t_depth t_steps t_taken t_shown t_outcome t_parameters t_length t_newLength t_first t_anew t_table t_inputs t_at t_in t_back t_register t_output t_calls t_latest t_differ)) (hl : lv_has ls 4 [(0, .ref a_t), (1, .int x1), (2, .int x2)]) : W p l e r_X8_run s m args below meth c H locs 0 0 (MQ below (g_Qi dC dI cI cZ cJ A (w_X8_run cI cZ cJ a_t a_t_parameters a_t_length a_t_newLength a_t_first a_t_anew a_t_table a_t_inputs a_t_at a_t_in a_t_back a_t_register a_t_output a_t_calls a_t_latest a_t_differ a_t_now a_t_met a_t_any a_t_number a_t_outAny a_t_out out.2.1 t_own t_count t_tableSize t_given t_known t_news out.2.2.1 out.2.2.2.1 out.2.2.2.2.1 out.2.2.2.2.2.1 out.2.2.2.2.2.2.1 t_parameters t_length t_newLength t_first t_anew t_table t_inputs out.2.2.2.2.2.2.2.1 out.2.2.2.2.2.2.2.2.1 out.2.2.2.2.2.2.2.2.2.1 out.2.2.2.2.2.2.2.2.2.2.1 out.2.2.2.2.2.2.2.2.2.2.2.1 out.2.2.2.2.2.2.2.2.2.2.2.2.1 out.2.2.2.2.2.2.2.2.2.2.2.2.2.1 out.2.2.2.2.2.2.2.2.2.2.2.2.2.2) out.1) args s 0 0 A) (F0 m 39 ls [.int z0, .ref a_t]) := by
  have hx := hC.1
  have hb := hC.2.1
  have hown := hC.2.2.2.2.1
  have hts := hC.2.2.2.2.2.1
  unfold f_X8_run_39 at hf
  refine gs_put (ws' := w_X8_run cI cZ cJ a_t a_t_parameters a_t_length a_t_newLength a_t_first a_t_anew a_t_table a_t_inputs a_t_at a_t_in a_t_back a_t_register a_t_output a_t_calls a_t_latest a_t_differ a_t_now a_t_met a_t_any a_t_number a_t_outAny a_t_out z0 t_own t_count t_tableSize t_given t_known t_news t_depth t_steps t_taken t_shown t_outcome t_parameters t_length t_newLength t_first t_anew t_table t_inputs t_at t_in t_back t_register t_output t_calls t_latest t_differ) hC hW in_X8 tyX8_ok nmX8 0 0 rfl rfl (by decide) fl_X8_74 rfl rfl rfl (Nat.le_of_ble_eq_true rfl) rfl dX8_run_39 (fun H locs hW => ?_)
  refine lv_aload_n hx hb dX8_run_42 rfl (lv_at hl 0 rfl) ?_
  refine gs_get hC hW in_X8 0 0 rfl rfl (by decide) fl_X8_74 rfl dX8_run_43 ?_
  refine lv_if_le (tgt := 51) hx hb dX8_run_46 (by decide) (fun c10 => ?_) (fun c10 => ?_)
  · replace hf := (if_pos c10).symm.trans hf
    refine lv_aload_n hx hb dX8_run_51 rfl (lv_at hl 0 rfl) ?_
    refine lv_iconst (v := 0) hx hb dX8_run_52 (by decide) ?_
    refine gs_put (ws' := w_X8_run cI cZ cJ a_t a_t_parameters a_t_length a_t_newLength a_t_first a_t_anew a_t_table a_t_inputs a_t_at a_t_in a_t_back a_t_register a_t_output a_t_calls a_t_latest a_t_differ a_t_now a_t_met a_t_any a_t_number a_t_outAny a_t_out z0 t_own t_count t_tableSize t_given t_known t_news 0 t_steps t_taken t_shown t_outcome t_parameters t_length t_newLength t_first t_anew t_table t_inputs t_at t_in t_back t_register t_output t_calls t_latest t_differ) hC hW in_X8 tyX8_ok nmX8 0 20 rfl rfl (by decide) fl_X8_180 rfl rfl rfl (Nat.le_of_ble_eq_true rfl) rfl dX8_run_53 (fun H locs hW => ?_)
    refine lv_aload_n hx hb dX8_run_56 rfl (lv_at hl 0 rfl) ?_
    refine lv_iconst (v := 0) hx hb dX8_run_57 (by decide) ?_
    refine gs_put (ws' := w_X8_run cI cZ cJ a_t a_t_parameters a_t_length a_t_newLength a_t_first a_t_anew a_t_table a_t_inputs a_t_at a_t_in a_t_back a_t_register a_t_output a_t_calls a_t_latest a_t_differ a_t_now a_t_met a_t_any a_t_number a_t_outAny a_t_out z0 t_own t_count t_tableSize t_given t_known t_news 0 0 t_taken t_shown t_outcome t_parameters t_length t_newLength t_first t_anew t_table t_inputs t_at t_in t_back t_register t_output t_calls t_latest t_differ) hC hW in_X8 tyX8_ok nmX8 0 21 rfl rfl (by decide) fl_X8_203 rfl rfl rfl (Nat.le_of_ble_eq_true rfl) rfl dX8_run_58 (fun H locs hW => ?_)
    refine lv_aload_n hx hb dX8_run_61 rfl (lv_at hl 0 rfl) ?_
    refine lv_iconst (v := 0) hx hb dX8_run_62 (by decide) ?_
    refine gs_put (ws' := w_X8_run cI cZ cJ a_t a_t_parameters a_t_length a_t_newLength a_t_first a_t_anew a_t_table a_t_inputs a_t_at a_t_in a_t_back a_t_register a_t_output a_t_calls a_t_latest a_t_differ a_t_now a_t_met a_t_any a_t_number a_t_outAny a_t_out z0 t_own t_count t_tableSize t_given t_known t_news 0 0 0 t_shown t_outcome t_parameters t_length t_newLength t_first t_anew t_table t_inputs t_at t_in t_back t_register t_output t_calls t_latest t_differ) hC hW in_X8 tyX8_ok nmX8 0 22 rfl rfl (by decide) fl_X8_189 rfl rfl rfl (Nat.le_of_ble_eq_true rfl) rfl dX8_run_63 (fun H locs hW => ?_)
    refine lv_aload_n hx hb dX8_run_66 rfl (lv_at hl 0 rfl) ?_
    refine lv_iconst (v := 0) hx hb dX8_run_67 (by decide) ?_
    refine gs_put (ws' := w_X8_run cI cZ cJ a_t a_t_parameters a_t_length a_t_newLength a_t_first a_t_anew a_t_table a_t_inputs a_t_at a_t_in a_t_back a_t_register a_t_output a_t_calls a_t_latest a_t_differ a_t_now a_t_met a_t_any a_t_number a_t_outAny a_t_out z0 t_own t_count t_tableSize t_given t_known t_news 0 0 0 0 t_outcome t_parameters t_length t_newLength t_first t_anew t_table t_inputs t_at t_in t_back t_register t_output t_calls t_latest t_differ) hC hW in_X8 tyX8_ok nmX8 0 23 rfl rfl (by decide) fl_X8_192 rfl rfl rfl (Nat.le_of_ble_eq_true rfl) rfl dX8_run_68 (fun H locs hW => ?_)
    refine lv_iconst (v := 0) hx hb dX8_run_71 (by decide) ?_
    refine lv_istore_n (lv' := [(3, .int 0), (0, .ref a_t), (1, .int x1), (2, .int x2)]) hx hb dX8_run_72 rfl hl (by decide) rfl (fun ls hl => ?_)
    exact b_X8_run_73 hC N _ _ _ _ _ _ _ _ _ _ _ _ _ _ _ _ hf _ _ _ hW (lv_sub hl [1, 2, 3, 0] rfl)
  · replace hf := (if_neg c10).symm.trans hf
    refine lv_iconst (v := 0) hx hb dX8_run_49 (by decide) ?_
    obtain rfl := Option.some.inj hf
    exact gs_ri hC hW rfl dX8_run_50
def f_X8_run (N : Nat) (x1 : Int32) (x2 : Int32) (t_code : Int32) (t_own : Int32) (t_tableSize : Int32) (t_given : Int32) (t_known : Int32) (t_depth : Int32) (t_steps : Int32) (t_taken : Int32) (t_shown : Int32) (t_outcome : Int32) (t_parameters : Nat → Int32) (t_length : Nat → Int32) (t_newLength : Nat → Int32) (t_first : Nat → Int32) (t_anew : Nat → Int32) (t_table : Nat → Int32) (t_inputs : Nat → Int32) (t_at : Nat → Int32) (t_in : Nat → Int32) (t_back : Nat → Int32) (t_register : Nat → Int32) (t_output : Nat → Int32) (t_calls : Nat → Int32) (t_latest : Nat → Int32) (t_differ : Nat → Int32) : Option (Int32 × Int32 × Int32 × Int32 × Int32 × Int32 × Int32 × (Nat → Int32) × (Nat → Int32) × (Nat → Int32) × (Nat → Int32) × (Nat → Int32) × (Nat → Int32) × (Nat → Int32) × (Nat → Int32)) := if x2 < 0 then f_X8_run_39 N x1 x2 t_own t_tableSize t_given t_known t_parameters t_length t_newLength t_first t_anew t_table t_inputs 1 t_code t_depth t_steps t_taken t_shown t_outcome t_at t_in t_back t_register t_output t_calls t_latest t_differ else if x2 ≤ 3000 then if t_own = 0 then f_X8_run_39 N x1 x2 t_own t_tableSize t_given t_known t_parameters t_length t_newLength t_first t_anew t_table t_inputs 2 t_code t_depth t_steps t_taken t_shown t_outcome t_at t_in t_back t_register t_output t_calls t_latest t_differ else if x1 = 0 then f_X8_run_39 N x1 x2 t_own t_tableSize t_given t_known t_parameters t_length t_newLength t_first t_anew t_table t_inputs 0 t_code t_depth t_steps t_taken t_shown t_outcome t_at t_in t_back t_register t_output t_calls t_latest t_differ else if t_known = 0 then f_X8_run_39 N x1 x2 t_own t_tableSize t_given t_known t_parameters t_length t_newLength t_first t_anew t_table t_inputs 2 t_code t_depth t_steps t_taken t_shown t_outcome t_at t_in t_back t_register t_output t_calls t_latest t_differ else f_X8_run_39 N x1 x2 t_own t_tableSize t_given t_known t_parameters t_length t_newLength t_first t_anew t_table t_inputs 0 t_code t_depth t_steps t_taken t_shown t_outcome t_at t_in t_back t_register t_output t_calls t_latest t_differ else f_X8_run_39 N x1 x2 t_own t_tableSize t_given t_known t_parameters t_length t_newLength t_first t_anew t_table t_inputs 1 t_code t_depth t_steps t_taken t_shown t_outcome t_at t_in t_back t_register t_output t_calls t_latest t_differ
set_option maxHeartbeats 4000000 in
set_option maxRecDepth 100000 in
theorem k_X8_run (l : Launch) (tA : Nat) (dC : Nat → ClassId) (dI : Nat → Nat → Nat) (cI cZ cJ : ClassId) (a_t : Nat) (a_t_parameters : Nat) (a_t_length : Nat) (a_t_newLength : Nat) (a_t_first : Nat) (a_t_anew : Nat) (a_t_table : Nat) (a_t_inputs : Nat) (a_t_at : Nat) (a_t_in : Nat) (a_t_back : Nat) (a_t_register : Nat) (a_t_output : Nat) (a_t_calls : Nat) (a_t_latest : Nat) (a_t_differ : Nat) (a_t_now : Nat) (a_t_met : Nat) (a_t_any : Nat) (a_t_number : Nat) (a_t_outAny : Nat) (a_t_out : Nat) (N : Nat) (x1 : Int32) (x2 : Int32) (t_code : Int32) (t_own : Int32) (t_count : Int32) (t_tableSize : Int32) (t_given : Int32) (t_known : Int32) (t_news : Int32) (t_depth : Int32) (t_steps : Int32) (t_taken : Int32) (t_shown : Int32) (t_outcome : Int32) (t_parameters : Nat → Int32) (t_length : Nat → Int32) (t_newLength : Nat → Int32) (t_first : Nat → Int32) (t_anew : Nat → Int32) (t_table : Nat → Int32) (t_inputs : Nat → Int32) (t_at : Nat → Int32) (t_in : Nat → Int32) (t_back : Nat → Int32) (t_register : Nat → Int32) (t_output : Nat → Int32) (t_calls : Nat → Int32) (t_latest : Nat → Int32) (t_differ : Nat → Int32) (out : Int32 × Int32 × Int32 × Int32 × Int32 × Int32 × Int32 × (Nat → Int32) × (Nat → Int32) × (Nat → Int32) × (Nat → Int32) × (Nat → Int32) × (Nat → Int32) × (Nat → Int32) × (Nat → Int32)) (hf : f_X8_run N x1 x2 t_code t_own t_tableSize t_given t_known t_depth t_steps t_taken t_shown t_outcome t_parameters t_length t_newLength t_first t_anew t_table t_inputs t_at t_in t_back t_register t_output t_calls t_latest t_differ = some out) : g_Mi l yX8_run cX8_run 4 (some .int) r_X8_run tA dC dI cI cZ cJ [.ref a_t, .int x1, .int x2] (w_X8_run cI cZ cJ a_t a_t_parameters a_t_length a_t_newLength a_t_first a_t_anew a_t_table a_t_inputs a_t_at a_t_in a_t_back a_t_register a_t_output a_t_calls a_t_latest a_t_differ a_t_now a_t_met a_t_any a_t_number a_t_outAny a_t_out t_code t_own t_count t_tableSize t_given t_known t_news t_depth t_steps t_taken t_shown t_outcome t_parameters t_length t_newLength t_first t_anew t_table t_inputs t_at t_in t_back t_register t_output t_calls t_latest t_differ) (w_X8_run cI cZ cJ a_t a_t_parameters a_t_length a_t_newLength a_t_first a_t_anew a_t_table a_t_inputs a_t_at a_t_in a_t_back a_t_register a_t_output a_t_calls a_t_latest a_t_differ a_t_now a_t_met a_t_any a_t_number a_t_outAny a_t_out out.2.1 t_own t_count t_tableSize t_given t_known t_news out.2.2.1 out.2.2.2.1 out.2.2.2.2.1 out.2.2.2.2.2.1 out.2.2.2.2.2.2.1 t_parameters t_length t_newLength t_first t_anew t_table t_inputs out.2.2.2.2.2.2.2.1 out.2.2.2.2.2.2.2.2.1 out.2.2.2.2.2.2.2.2.2.1 out.2.2.2.2.2.2.2.2.2.2.1 out.2.2.2.2.2.2.2.2.2.2.2.1 out.2.2.2.2.2.2.2.2.2.2.2.2.1 out.2.2.2.2.2.2.2.2.2.2.2.2.2.1 out.2.2.2.2.2.2.2.2.2.2.2.2.2.2) out.1 := by
  unfold f_X8_run at hf
  refine ge_i (by decide) (Nat.le_of_ble_eq_true rfl) (fun p e s m below meth c A H locs ls hC hW hl => ?_)
  have hC : g_C p s m meth c _ cX8_run 4 (some .int) RX8 := hC
  have hx := hC.1
  have hb := hC.2.1
  have hown := hC.2.2.2.2.1
  have hts := hC.2.2.2.2.2.1
  have hl : lv_has ls 4 [(0, .ref a_t), (1, .int x1), (2, .int x2)] := hl
  refine lv_aload_n hx hb dX8_run_0 rfl (lv_at hl 0 rfl) ?_
  refine lv_iload_n hx hb dX8_run_1 rfl (lv_at hl 2 rfl) ?_
  refine lv_if_lt (tgt := 12) hx hb dX8_run_2 (by decide) (fun c11 => ?_) (fun c11 => ?_)
  · replace hf := (if_pos c11).symm.trans hf
    refine lv_iconst (v := 1) hx hb dX8_run_12 (by decide) ?_
    refine lv_goto (tgt := 39) hx hb dX8_run_13 (by decide) ?_
    exact b_X8_run_39 hC hf hW (lv_sub hl [0, 1, 2] rfl)
  · replace hf := (if_neg c11).symm.trans hf
    refine lv_iload_n hx hb dX8_run_5 rfl (lv_at hl 2 rfl) ?_
    refine lv_sipush (v := 3000) hx hb dX8_run_6 (by decide) ?_
    refine lv_icmp_le (tgt := 16) hx hb dX8_run_9 (by decide) (fun c12 => ?_) (fun c12 => ?_)
    · replace hf := (if_pos c12).symm.trans hf
      refine lv_aload_n hx hb dX8_run_16 rfl (lv_at hl 0 rfl) ?_
      refine gs_get hC hW in_X8 0 1 rfl rfl (by decide) fl_X8_82 rfl dX8_run_17 ?_
      refine lv_if_eq (tgt := 34) hx hb dX8_run_20 (by decide) (fun c13 => ?_) (fun c13 => ?_)
      · replace hf := (if_pos c13).symm.trans hf
        refine lv_iconst (v := 2) hx hb dX8_run_34 (by decide) ?_
        refine lv_goto (tgt := 39) hx hb dX8_run_35 (by decide) ?_
        exact b_X8_run_39 hC hf hW (lv_sub hl [0, 1, 2] rfl)
      · replace hf := (if_neg c13).symm.trans hf
        refine lv_iload_n hx hb dX8_run_23 rfl (lv_at hl 1 rfl) ?_
        refine lv_if_eq (tgt := 38) hx hb dX8_run_24 (by decide) (fun c14 => ?_) (fun c14 => ?_)
        · replace hf := (if_pos c14).symm.trans hf
          refine lv_iconst (v := 0) hx hb dX8_run_38 (by decide) ?_
          exact b_X8_run_39 hC hf hW (lv_sub hl [0, 1, 2] rfl)
        · replace hf := (if_neg c14).symm.trans hf
          refine lv_aload_n hx hb dX8_run_27 rfl (lv_at hl 0 rfl) ?_
          refine gs_get hC hW in_X8 0 13 rfl rfl (by decide) fl_X8_78 rfl dX8_run_28 ?_
          refine lv_if_ne (tgt := 38) hx hb dX8_run_31 (by decide) (fun c15 => ?_) (fun c15 => ?_)
          · replace hf := (if_neg c15).symm.trans hf
            refine lv_iconst (v := 0) hx hb dX8_run_38 (by decide) ?_
            exact b_X8_run_39 hC hf hW (lv_sub hl [0, 1, 2] rfl)
          · replace hf := (if_pos c15).symm.trans hf
            refine lv_iconst (v := 2) hx hb dX8_run_34 (by decide) ?_
            refine lv_goto (tgt := 39) hx hb dX8_run_35 (by decide) ?_
            exact b_X8_run_39 hC hf hW (lv_sub hl [0, 1, 2] rfl)
    · replace hf := (if_neg c12).symm.trans hf
      refine lv_iconst (v := 1) hx hb dX8_run_12 (by decide) ?_
      refine lv_goto (tgt := 39) hx hb dX8_run_13 (by decide) ?_
      exact b_X8_run_39 hC hf hW (lv_sub hl [0, 1, 2] rfl)

abbrev w_X8_done (cI cZ cJ : ClassId) (a_t : Nat) (a_t_parameters : Nat) (a_t_length : Nat) (a_t_newLength : Nat) (a_t_first : Nat) (a_t_now : Nat) (a_t_anew : Nat) (a_t_table : Nat) (a_t_inputs : Nat) (a_t_met : Nat) (a_t_any : Nat) (a_t_number : Nat) (a_t_outAny : Nat) (a_t_out : Nat) (a_t_at : Nat) (a_t_in : Nat) (a_t_back : Nat) (a_t_register : Nat) (a_t_output : Nat) (a_t_calls : Nat) (a_t_latest : Nat) (a_t_differ : Nat) (t_code : Int32) (t_own : Int32) (t_count : Int32) (t_tableSize : Int32) (t_given : Int32) (t_known : Int32) (t_news : Int32) (t_depth : Int32) (t_steps : Int32) (t_taken : Int32) (t_shown : Int32) (t_outcome : Int32) : va_W := [(a_t, .inr (8, [.int t_code, .int t_own, .int t_count, .ref a_t_parameters, .ref a_t_length, .ref a_t_newLength, .ref a_t_first, .ref a_t_now, .ref a_t_anew, .int t_tableSize, .ref a_t_table, .int t_given, .ref a_t_inputs, .int t_known, .ref a_t_met, .ref a_t_any, .ref a_t_number, .int t_news, .ref a_t_outAny, .ref a_t_out, .int t_depth, .int t_steps, .int t_taken, .int t_shown, .ref a_t_at, .ref a_t_in, .ref a_t_back, .ref a_t_register, .ref a_t_output, .ref a_t_calls, .ref a_t_latest, .ref a_t_differ, .int t_outcome]))]
abbrev r_X8_done : Room := { frames := 0, cells := 0, slots := 0, locals := 0 }
def f_X8_done (t_code : Int32) (t_steps : Int32) : Option (Int32 × Int32) := some (t_steps, 0)
set_option maxHeartbeats 4000000 in
set_option maxRecDepth 100000 in
theorem k_X8_done (l : Launch) (tA : Nat) (dC : Nat → ClassId) (dI : Nat → Nat → Nat) (cI cZ cJ : ClassId) (a_t : Nat) (a_t_parameters : Nat) (a_t_length : Nat) (a_t_newLength : Nat) (a_t_first : Nat) (a_t_now : Nat) (a_t_anew : Nat) (a_t_table : Nat) (a_t_inputs : Nat) (a_t_met : Nat) (a_t_any : Nat) (a_t_number : Nat) (a_t_outAny : Nat) (a_t_out : Nat) (a_t_at : Nat) (a_t_in : Nat) (a_t_back : Nat) (a_t_register : Nat) (a_t_output : Nat) (a_t_calls : Nat) (a_t_latest : Nat) (a_t_differ : Nat) (t_code : Int32) (t_own : Int32) (t_count : Int32) (t_tableSize : Int32) (t_given : Int32) (t_known : Int32) (t_news : Int32) (t_depth : Int32) (t_steps : Int32) (t_taken : Int32) (t_shown : Int32) (t_outcome : Int32) (out : Int32 × Int32) (hf : f_X8_done t_code t_steps = some out) : g_Mi l yX8_done cX8_done 1 (some .int) r_X8_done tA dC dI cI cZ cJ [.ref a_t] (w_X8_done cI cZ cJ a_t a_t_parameters a_t_length a_t_newLength a_t_first a_t_now a_t_anew a_t_table a_t_inputs a_t_met a_t_any a_t_number a_t_outAny a_t_out a_t_at a_t_in a_t_back a_t_register a_t_output a_t_calls a_t_latest a_t_differ t_code t_own t_count t_tableSize t_given t_known t_news t_depth t_steps t_taken t_shown t_outcome) (w_X8_done cI cZ cJ a_t a_t_parameters a_t_length a_t_newLength a_t_first a_t_now a_t_anew a_t_table a_t_inputs a_t_met a_t_any a_t_number a_t_outAny a_t_out a_t_at a_t_in a_t_back a_t_register a_t_output a_t_calls a_t_latest a_t_differ out.2 t_own t_count t_tableSize t_given t_known t_news t_depth t_steps t_taken t_shown t_outcome) out.1 := by
  unfold f_X8_done at hf
  refine ge_i (by decide) (Nat.le_of_ble_eq_true rfl) (fun p e s m below meth c A H locs ls hC hW hl => ?_)
  have hC : g_C p s m meth c _ cX8_done 1 (some .int) RX8 := hC
  have hx := hC.1
  have hb := hC.2.1
  have hown := hC.2.2.2.2.1
  have hts := hC.2.2.2.2.2.1
  have hl : lv_has ls 1 [(0, .ref a_t)] := hl
  refine lv_aload_n hx hb dX8_done_0 rfl (lv_at hl 0 rfl) ?_
  refine lv_iconst (v := 0) hx hb dX8_done_1 (by decide) ?_
  refine gs_put (ws' := w_X8_done cI cZ cJ a_t a_t_parameters a_t_length a_t_newLength a_t_first a_t_now a_t_anew a_t_table a_t_inputs a_t_met a_t_any a_t_number a_t_outAny a_t_out a_t_at a_t_in a_t_back a_t_register a_t_output a_t_calls a_t_latest a_t_differ 0 t_own t_count t_tableSize t_given t_known t_news t_depth t_steps t_taken t_shown t_outcome) hC hW in_X8 tyX8_ok nmX8 0 0 rfl rfl (by decide) fl_X8_74 rfl rfl rfl (Nat.le_of_ble_eq_true rfl) rfl dX8_done_2 (fun H locs hW => ?_)
  refine lv_aload_n hx hb dX8_done_5 rfl (lv_at hl 0 rfl) ?_
  refine gs_get hC hW in_X8 0 21 rfl rfl (by decide) fl_X8_203 rfl dX8_done_6 ?_
  obtain rfl := Option.some.inj hf
  exact gs_ri hC hW rfl dX8_done_9

abbrev w_X8_outputs (cI cZ cJ : ClassId) (a_t : Nat) (a_t_parameters : Nat) (a_t_length : Nat) (a_t_newLength : Nat) (a_t_first : Nat) (a_t_now : Nat) (a_t_anew : Nat) (a_t_table : Nat) (a_t_inputs : Nat) (a_t_met : Nat) (a_t_any : Nat) (a_t_number : Nat) (a_t_outAny : Nat) (a_t_out : Nat) (a_t_at : Nat) (a_t_in : Nat) (a_t_back : Nat) (a_t_register : Nat) (a_t_output : Nat) (a_t_calls : Nat) (a_t_latest : Nat) (a_t_differ : Nat) (t_code : Int32) (t_own : Int32) (t_count : Int32) (t_tableSize : Int32) (t_given : Int32) (t_known : Int32) (t_news : Int32) (t_depth : Int32) (t_steps : Int32) (t_taken : Int32) (t_shown : Int32) (t_outcome : Int32) : va_W := [(a_t, .inr (8, [.int t_code, .int t_own, .int t_count, .ref a_t_parameters, .ref a_t_length, .ref a_t_newLength, .ref a_t_first, .ref a_t_now, .ref a_t_anew, .int t_tableSize, .ref a_t_table, .int t_given, .ref a_t_inputs, .int t_known, .ref a_t_met, .ref a_t_any, .ref a_t_number, .int t_news, .ref a_t_outAny, .ref a_t_out, .int t_depth, .int t_steps, .int t_taken, .int t_shown, .ref a_t_at, .ref a_t_in, .ref a_t_back, .ref a_t_register, .ref a_t_output, .ref a_t_calls, .ref a_t_latest, .ref a_t_differ, .int t_outcome]))]
abbrev r_X8_outputs : Room := { frames := 0, cells := 0, slots := 0, locals := 0 }
def f_X8_outputs (t_code : Int32) (t_shown : Int32) : Option (Int32 × Int32) := some (t_shown, 0)
set_option maxHeartbeats 4000000 in
set_option maxRecDepth 100000 in
theorem k_X8_outputs (l : Launch) (tA : Nat) (dC : Nat → ClassId) (dI : Nat → Nat → Nat) (cI cZ cJ : ClassId) (a_t : Nat) (a_t_parameters : Nat) (a_t_length : Nat) (a_t_newLength : Nat) (a_t_first : Nat) (a_t_now : Nat) (a_t_anew : Nat) (a_t_table : Nat) (a_t_inputs : Nat) (a_t_met : Nat) (a_t_any : Nat) (a_t_number : Nat) (a_t_outAny : Nat) (a_t_out : Nat) (a_t_at : Nat) (a_t_in : Nat) (a_t_back : Nat) (a_t_register : Nat) (a_t_output : Nat) (a_t_calls : Nat) (a_t_latest : Nat) (a_t_differ : Nat) (t_code : Int32) (t_own : Int32) (t_count : Int32) (t_tableSize : Int32) (t_given : Int32) (t_known : Int32) (t_news : Int32) (t_depth : Int32) (t_steps : Int32) (t_taken : Int32) (t_shown : Int32) (t_outcome : Int32) (out : Int32 × Int32) (hf : f_X8_outputs t_code t_shown = some out) : g_Mi l yX8_outputs cX8_outputs 1 (some .int) r_X8_outputs tA dC dI cI cZ cJ [.ref a_t] (w_X8_outputs cI cZ cJ a_t a_t_parameters a_t_length a_t_newLength a_t_first a_t_now a_t_anew a_t_table a_t_inputs a_t_met a_t_any a_t_number a_t_outAny a_t_out a_t_at a_t_in a_t_back a_t_register a_t_output a_t_calls a_t_latest a_t_differ t_code t_own t_count t_tableSize t_given t_known t_news t_depth t_steps t_taken t_shown t_outcome) (w_X8_outputs cI cZ cJ a_t a_t_parameters a_t_length a_t_newLength a_t_first a_t_now a_t_anew a_t_table a_t_inputs a_t_met a_t_any a_t_number a_t_outAny a_t_out a_t_at a_t_in a_t_back a_t_register a_t_output a_t_calls a_t_latest a_t_differ out.2 t_own t_count t_tableSize t_given t_known t_news t_depth t_steps t_taken t_shown t_outcome) out.1 := by
  unfold f_X8_outputs at hf
  refine ge_i (by decide) (Nat.le_of_ble_eq_true rfl) (fun p e s m below meth c A H locs ls hC hW hl => ?_)
  have hC : g_C p s m meth c _ cX8_outputs 1 (some .int) RX8 := hC
  have hx := hC.1
  have hb := hC.2.1
  have hown := hC.2.2.2.2.1
  have hts := hC.2.2.2.2.2.1
  have hl : lv_has ls 1 [(0, .ref a_t)] := hl
  refine lv_aload_n hx hb dX8_outputs_0 rfl (lv_at hl 0 rfl) ?_
  refine lv_iconst (v := 0) hx hb dX8_outputs_1 (by decide) ?_
  refine gs_put (ws' := w_X8_outputs cI cZ cJ a_t a_t_parameters a_t_length a_t_newLength a_t_first a_t_now a_t_anew a_t_table a_t_inputs a_t_met a_t_any a_t_number a_t_outAny a_t_out a_t_at a_t_in a_t_back a_t_register a_t_output a_t_calls a_t_latest a_t_differ 0 t_own t_count t_tableSize t_given t_known t_news t_depth t_steps t_taken t_shown t_outcome) hC hW in_X8 tyX8_ok nmX8 0 0 rfl rfl (by decide) fl_X8_74 rfl rfl rfl (Nat.le_of_ble_eq_true rfl) rfl dX8_outputs_2 (fun H locs hW => ?_)
  refine lv_aload_n hx hb dX8_outputs_5 rfl (lv_at hl 0 rfl) ?_
  refine gs_get hC hW in_X8 0 23 rfl rfl (by decide) fl_X8_192 rfl dX8_outputs_6 ?_
  obtain rfl := Option.some.inj hf
  exact gs_ri hC hW rfl dX8_outputs_9

abbrev w_X8_output (cI cZ cJ : ClassId) (a_t : Nat) (a_t_output : Nat) (a_t_parameters : Nat) (a_t_length : Nat) (a_t_newLength : Nat) (a_t_first : Nat) (a_t_now : Nat) (a_t_anew : Nat) (a_t_table : Nat) (a_t_inputs : Nat) (a_t_met : Nat) (a_t_any : Nat) (a_t_number : Nat) (a_t_outAny : Nat) (a_t_out : Nat) (a_t_at : Nat) (a_t_in : Nat) (a_t_back : Nat) (a_t_register : Nat) (a_t_calls : Nat) (a_t_latest : Nat) (a_t_differ : Nat) (t_code : Int32) (t_own : Int32) (t_count : Int32) (t_tableSize : Int32) (t_given : Int32) (t_known : Int32) (t_news : Int32) (t_depth : Int32) (t_steps : Int32) (t_taken : Int32) (t_shown : Int32) (t_outcome : Int32) (t_output : Nat → Int32) : va_W := [(a_t, .inr (8, [.int t_code, .int t_own, .int t_count, .ref a_t_parameters, .ref a_t_length, .ref a_t_newLength, .ref a_t_first, .ref a_t_now, .ref a_t_anew, .int t_tableSize, .ref a_t_table, .int t_given, .ref a_t_inputs, .int t_known, .ref a_t_met, .ref a_t_any, .ref a_t_number, .int t_news, .ref a_t_outAny, .ref a_t_out, .int t_depth, .int t_steps, .int t_taken, .int t_shown, .ref a_t_at, .ref a_t_in, .ref a_t_back, .ref a_t_register, .ref a_t_output, .ref a_t_calls, .ref a_t_latest, .ref a_t_differ, .int t_outcome])), (a_t_output, .inl (cI, 40, .inl t_output))]
abbrev r_X8_output : Room := { frames := 1, cells := 0, slots := 0, locals := 21 }
def f_X8_output (x1 : Int32) (t_code : Int32) (t_shown : Int32) (t_output : Nat → Int32) : Option (Int32 × Int32) := if x1 < 0 then (f_X8_fail 1 0).bind (fun o2 => some (o2.1, o2.2)) else if x1 < t_shown then (g_rd 40 t_output x1).bind (fun v4 => some (v4, 0)) else (f_X8_fail 1 0).bind (fun o5 => some (o5.1, o5.2))
set_option maxHeartbeats 4000000 in
set_option maxRecDepth 100000 in
theorem k_X8_output (l : Launch) (tA : Nat) (dC : Nat → ClassId) (dI : Nat → Nat → Nat) (cI cZ cJ : ClassId) (a_t : Nat) (a_t_output : Nat) (a_t_parameters : Nat) (a_t_length : Nat) (a_t_newLength : Nat) (a_t_first : Nat) (a_t_now : Nat) (a_t_anew : Nat) (a_t_table : Nat) (a_t_inputs : Nat) (a_t_met : Nat) (a_t_any : Nat) (a_t_number : Nat) (a_t_outAny : Nat) (a_t_out : Nat) (a_t_at : Nat) (a_t_in : Nat) (a_t_back : Nat) (a_t_register : Nat) (a_t_calls : Nat) (a_t_latest : Nat) (a_t_differ : Nat) (x1 : Int32) (t_code : Int32) (t_own : Int32) (t_count : Int32) (t_tableSize : Int32) (t_given : Int32) (t_known : Int32) (t_news : Int32) (t_depth : Int32) (t_steps : Int32) (t_taken : Int32) (t_shown : Int32) (t_outcome : Int32) (t_output : Nat → Int32) (out : Int32 × Int32) (hf : f_X8_output x1 t_code t_shown t_output = some out) : g_Mi l yX8_output cX8_output 2 (some .int) r_X8_output tA dC dI cI cZ cJ [.ref a_t, .int x1] (w_X8_output cI cZ cJ a_t a_t_output a_t_parameters a_t_length a_t_newLength a_t_first a_t_now a_t_anew a_t_table a_t_inputs a_t_met a_t_any a_t_number a_t_outAny a_t_out a_t_at a_t_in a_t_back a_t_register a_t_calls a_t_latest a_t_differ t_code t_own t_count t_tableSize t_given t_known t_news t_depth t_steps t_taken t_shown t_outcome t_output) (w_X8_output cI cZ cJ a_t a_t_output a_t_parameters a_t_length a_t_newLength a_t_first a_t_now a_t_anew a_t_table a_t_inputs a_t_met a_t_any a_t_number a_t_outAny a_t_out a_t_at a_t_in a_t_back a_t_register a_t_calls a_t_latest a_t_differ out.2 t_own t_count t_tableSize t_given t_known t_news t_depth t_steps t_taken t_shown t_outcome t_output) out.1 := by
  unfold f_X8_output at hf
  refine ge_i (by decide) (Nat.le_of_ble_eq_true rfl) (fun p e s m below meth c A H locs ls hC hW hl => ?_)
  have hC : g_C p s m meth c _ cX8_output 2 (some .int) RX8 := hC
  have hx := hC.1
  have hb := hC.2.1
  have hown := hC.2.2.2.2.1
  have hts := hC.2.2.2.2.2.1
  have hl : lv_has ls 2 [(0, .ref a_t), (1, .int x1)] := hl
  refine lv_aload_n hx hb dX8_output_0 rfl (lv_at hl 0 rfl) ?_
  refine lv_iconst (v := 0) hx hb dX8_output_1 (by decide) ?_
  refine gs_put (ws' := w_X8_output cI cZ cJ a_t a_t_output a_t_parameters a_t_length a_t_newLength a_t_first a_t_now a_t_anew a_t_table a_t_inputs a_t_met a_t_any a_t_number a_t_outAny a_t_out a_t_at a_t_in a_t_back a_t_register a_t_calls a_t_latest a_t_differ 0 t_own t_count t_tableSize t_given t_known t_news t_depth t_steps t_taken t_shown t_outcome t_output) hC hW in_X8 tyX8_ok nmX8 0 0 rfl rfl (by decide) fl_X8_74 rfl rfl rfl (Nat.le_of_ble_eq_true rfl) rfl dX8_output_2 (fun H locs hW => ?_)
  refine lv_iload_n hx hb dX8_output_5 rfl (lv_at hl 1 rfl) ?_
  refine lv_if_lt (tgt := 17) hx hb dX8_output_6 (by decide) (fun c1 => ?_) (fun c1 => ?_)
  · replace hf := (if_pos c1).symm.trans hf
    refine lv_aload_n hx hb dX8_output_17 rfl (lv_at hl 0 rfl) ?_
    refine lv_iconst (v := 1) hx hb dX8_output_18 (by decide) ?_
    obtain ⟨o2, h2, hf⟩ := g_bnd hf
    refine gs_callVi (ws' := w_X8_output cI cZ cJ a_t a_t_output a_t_parameters a_t_length a_t_newLength a_t_first a_t_now a_t_anew a_t_table a_t_inputs a_t_met a_t_any a_t_number a_t_outAny a_t_out a_t_at a_t_in a_t_back a_t_register a_t_calls a_t_latest a_t_differ o2.2 t_own t_count t_tableSize t_given t_known t_news t_depth t_steps t_taken t_shown t_outcome t_output) hC hW (k_X8_fail l tA dC dI cI cZ cJ a_t a_t_parameters a_t_length a_t_newLength a_t_first a_t_now a_t_anew a_t_table a_t_inputs a_t_met a_t_any a_t_number a_t_outAny a_t_out a_t_at a_t_in a_t_back a_t_register a_t_output a_t_calls a_t_latest a_t_differ 1 0 t_own t_count t_tableSize t_given t_known t_news t_depth t_steps t_taken t_shown t_outcome _ h2) yk_X8_fail lk_X8_217 iv_X8_fail ⟨rfl, rfl⟩ ⟨Nat.le_of_ble_eq_true rfl, Nat.le_of_ble_eq_true rfl⟩ hl.1 0 rfl rfl [0] [1] [1, 0] rfl rfl rfl rfl (by decide) rfl rfl rfl rfl (Nat.le_of_ble_eq_true rfl) dX8_output_19 ⟨Nat.zero_le _, Nat.zero_le _⟩ (fun H locs hW => ?_)
    refine lv_goto (tgt := 31) hx hb dX8_output_22 (by decide) ?_
    obtain rfl := Option.some.inj hf
    exact gs_ri hC hW rfl dX8_output_31
  · replace hf := (if_neg c1).symm.trans hf
    refine lv_iload_n hx hb dX8_output_9 rfl (lv_at hl 1 rfl) ?_
    refine lv_aload_n hx hb dX8_output_10 rfl (lv_at hl 0 rfl) ?_
    refine gs_get hC hW in_X8 0 23 rfl rfl (by decide) fl_X8_192 rfl dX8_output_11 ?_
    refine lv_icmp_lt (tgt := 25) hx hb dX8_output_14 (by decide) (fun c3 => ?_) (fun c3 => ?_)
    · replace hf := (if_pos c3).symm.trans hf
      refine lv_aload_n hx hb dX8_output_25 rfl (lv_at hl 0 rfl) ?_
      refine gs_get hC hW in_X8 0 28 rfl rfl (by decide) fl_X8_62 rfl dX8_output_26 ?_
      refine lv_iload_n hx hb dX8_output_29 rfl (lv_at hl 1 rfl) ?_
      obtain ⟨v4, h4, hf⟩ := g_bnd hf
      refine gs_iald hC hW 1 h4 rfl dX8_output_30 ?_
      obtain rfl := Option.some.inj hf
      exact gs_ri hC hW rfl dX8_output_31
    · replace hf := (if_neg c3).symm.trans hf
      refine lv_aload_n hx hb dX8_output_17 rfl (lv_at hl 0 rfl) ?_
      refine lv_iconst (v := 1) hx hb dX8_output_18 (by decide) ?_
      obtain ⟨o5, h5, hf⟩ := g_bnd hf
      refine gs_callVi (ws' := w_X8_output cI cZ cJ a_t a_t_output a_t_parameters a_t_length a_t_newLength a_t_first a_t_now a_t_anew a_t_table a_t_inputs a_t_met a_t_any a_t_number a_t_outAny a_t_out a_t_at a_t_in a_t_back a_t_register a_t_calls a_t_latest a_t_differ o5.2 t_own t_count t_tableSize t_given t_known t_news t_depth t_steps t_taken t_shown t_outcome t_output) hC hW (k_X8_fail l tA dC dI cI cZ cJ a_t a_t_parameters a_t_length a_t_newLength a_t_first a_t_now a_t_anew a_t_table a_t_inputs a_t_met a_t_any a_t_number a_t_outAny a_t_out a_t_at a_t_in a_t_back a_t_register a_t_output a_t_calls a_t_latest a_t_differ 1 0 t_own t_count t_tableSize t_given t_known t_news t_depth t_steps t_taken t_shown t_outcome _ h5) yk_X8_fail lk_X8_217 iv_X8_fail ⟨rfl, rfl⟩ ⟨Nat.le_of_ble_eq_true rfl, Nat.le_of_ble_eq_true rfl⟩ hl.1 0 rfl rfl [0] [1] [1, 0] rfl rfl rfl rfl (by decide) rfl rfl rfl rfl (Nat.le_of_ble_eq_true rfl) dX8_output_19 ⟨Nat.zero_le _, Nat.zero_le _⟩ (fun H locs hW => ?_)
      refine lv_goto (tgt := 31) hx hb dX8_output_22 (by decide) ?_
      obtain rfl := Option.some.inj hf
      exact gs_ri hC hW rfl dX8_output_31

abbrev w_X8_calls (cI cZ cJ : ClassId) (a_t : Nat) (a_t_calls : Nat) (a_t_parameters : Nat) (a_t_length : Nat) (a_t_newLength : Nat) (a_t_first : Nat) (a_t_now : Nat) (a_t_anew : Nat) (a_t_table : Nat) (a_t_inputs : Nat) (a_t_met : Nat) (a_t_any : Nat) (a_t_number : Nat) (a_t_outAny : Nat) (a_t_out : Nat) (a_t_at : Nat) (a_t_in : Nat) (a_t_back : Nat) (a_t_register : Nat) (a_t_output : Nat) (a_t_latest : Nat) (a_t_differ : Nat) (t_code : Int32) (t_own : Int32) (t_count : Int32) (t_tableSize : Int32) (t_given : Int32) (t_known : Int32) (t_news : Int32) (t_depth : Int32) (t_steps : Int32) (t_taken : Int32) (t_shown : Int32) (t_outcome : Int32) (t_calls : Nat → Int32) : va_W := [(a_t, .inr (8, [.int t_code, .int t_own, .int t_count, .ref a_t_parameters, .ref a_t_length, .ref a_t_newLength, .ref a_t_first, .ref a_t_now, .ref a_t_anew, .int t_tableSize, .ref a_t_table, .int t_given, .ref a_t_inputs, .int t_known, .ref a_t_met, .ref a_t_any, .ref a_t_number, .int t_news, .ref a_t_outAny, .ref a_t_out, .int t_depth, .int t_steps, .int t_taken, .int t_shown, .ref a_t_at, .ref a_t_in, .ref a_t_back, .ref a_t_register, .ref a_t_output, .ref a_t_calls, .ref a_t_latest, .ref a_t_differ, .int t_outcome])), (a_t_calls, .inl (cI, 12, .inl t_calls))]
abbrev r_X8_calls : Room := { frames := 1, cells := 0, slots := 0, locals := 21 }
def f_X8_calls (x1 : Int32) (t_code : Int32) (t_calls : Nat → Int32) : Option (Int32 × Int32) := if x1 < 0 then (f_X8_fail 1 0).bind (fun o2 => some (o2.1, o2.2)) else if x1 < 12 then (g_rd 12 t_calls x1).bind (fun v4 => some (v4, 0)) else (f_X8_fail 1 0).bind (fun o5 => some (o5.1, o5.2))
set_option maxHeartbeats 4000000 in
set_option maxRecDepth 100000 in
theorem k_X8_calls (l : Launch) (tA : Nat) (dC : Nat → ClassId) (dI : Nat → Nat → Nat) (cI cZ cJ : ClassId) (a_t : Nat) (a_t_calls : Nat) (a_t_parameters : Nat) (a_t_length : Nat) (a_t_newLength : Nat) (a_t_first : Nat) (a_t_now : Nat) (a_t_anew : Nat) (a_t_table : Nat) (a_t_inputs : Nat) (a_t_met : Nat) (a_t_any : Nat) (a_t_number : Nat) (a_t_outAny : Nat) (a_t_out : Nat) (a_t_at : Nat) (a_t_in : Nat) (a_t_back : Nat) (a_t_register : Nat) (a_t_output : Nat) (a_t_latest : Nat) (a_t_differ : Nat) (x1 : Int32) (t_code : Int32) (t_own : Int32) (t_count : Int32) (t_tableSize : Int32) (t_given : Int32) (t_known : Int32) (t_news : Int32) (t_depth : Int32) (t_steps : Int32) (t_taken : Int32) (t_shown : Int32) (t_outcome : Int32) (t_calls : Nat → Int32) (out : Int32 × Int32) (hf : f_X8_calls x1 t_code t_calls = some out) : g_Mi l yX8_calls cX8_calls 2 (some .int) r_X8_calls tA dC dI cI cZ cJ [.ref a_t, .int x1] (w_X8_calls cI cZ cJ a_t a_t_calls a_t_parameters a_t_length a_t_newLength a_t_first a_t_now a_t_anew a_t_table a_t_inputs a_t_met a_t_any a_t_number a_t_outAny a_t_out a_t_at a_t_in a_t_back a_t_register a_t_output a_t_latest a_t_differ t_code t_own t_count t_tableSize t_given t_known t_news t_depth t_steps t_taken t_shown t_outcome t_calls) (w_X8_calls cI cZ cJ a_t a_t_calls a_t_parameters a_t_length a_t_newLength a_t_first a_t_now a_t_anew a_t_table a_t_inputs a_t_met a_t_any a_t_number a_t_outAny a_t_out a_t_at a_t_in a_t_back a_t_register a_t_output a_t_latest a_t_differ out.2 t_own t_count t_tableSize t_given t_known t_news t_depth t_steps t_taken t_shown t_outcome t_calls) out.1 := by
  unfold f_X8_calls at hf
  refine ge_i (by decide) (Nat.le_of_ble_eq_true rfl) (fun p e s m below meth c A H locs ls hC hW hl => ?_)
  have hC : g_C p s m meth c _ cX8_calls 2 (some .int) RX8 := hC
  have hx := hC.1
  have hb := hC.2.1
  have hown := hC.2.2.2.2.1
  have hts := hC.2.2.2.2.2.1
  have hl : lv_has ls 2 [(0, .ref a_t), (1, .int x1)] := hl
  refine lv_aload_n hx hb dX8_calls_0 rfl (lv_at hl 0 rfl) ?_
  refine lv_iconst (v := 0) hx hb dX8_calls_1 (by decide) ?_
  refine gs_put (ws' := w_X8_calls cI cZ cJ a_t a_t_calls a_t_parameters a_t_length a_t_newLength a_t_first a_t_now a_t_anew a_t_table a_t_inputs a_t_met a_t_any a_t_number a_t_outAny a_t_out a_t_at a_t_in a_t_back a_t_register a_t_output a_t_latest a_t_differ 0 t_own t_count t_tableSize t_given t_known t_news t_depth t_steps t_taken t_shown t_outcome t_calls) hC hW in_X8 tyX8_ok nmX8 0 0 rfl rfl (by decide) fl_X8_74 rfl rfl rfl (Nat.le_of_ble_eq_true rfl) rfl dX8_calls_2 (fun H locs hW => ?_)
  refine lv_iload_n hx hb dX8_calls_5 rfl (lv_at hl 1 rfl) ?_
  refine lv_if_lt (tgt := 15) hx hb dX8_calls_6 (by decide) (fun c1 => ?_) (fun c1 => ?_)
  · replace hf := (if_pos c1).symm.trans hf
    refine lv_aload_n hx hb dX8_calls_15 rfl (lv_at hl 0 rfl) ?_
    refine lv_iconst (v := 1) hx hb dX8_calls_16 (by decide) ?_
    obtain ⟨o2, h2, hf⟩ := g_bnd hf
    refine gs_callVi (ws' := w_X8_calls cI cZ cJ a_t a_t_calls a_t_parameters a_t_length a_t_newLength a_t_first a_t_now a_t_anew a_t_table a_t_inputs a_t_met a_t_any a_t_number a_t_outAny a_t_out a_t_at a_t_in a_t_back a_t_register a_t_output a_t_latest a_t_differ o2.2 t_own t_count t_tableSize t_given t_known t_news t_depth t_steps t_taken t_shown t_outcome t_calls) hC hW (k_X8_fail l tA dC dI cI cZ cJ a_t a_t_parameters a_t_length a_t_newLength a_t_first a_t_now a_t_anew a_t_table a_t_inputs a_t_met a_t_any a_t_number a_t_outAny a_t_out a_t_at a_t_in a_t_back a_t_register a_t_output a_t_calls a_t_latest a_t_differ 1 0 t_own t_count t_tableSize t_given t_known t_news t_depth t_steps t_taken t_shown t_outcome _ h2) yk_X8_fail lk_X8_217 iv_X8_fail ⟨rfl, rfl⟩ ⟨Nat.le_of_ble_eq_true rfl, Nat.le_of_ble_eq_true rfl⟩ hl.1 0 rfl rfl [0] [1] [1, 0] rfl rfl rfl rfl (by decide) rfl rfl rfl rfl (Nat.le_of_ble_eq_true rfl) dX8_calls_17 ⟨Nat.zero_le _, Nat.zero_le _⟩ (fun H locs hW => ?_)
    refine lv_goto (tgt := 29) hx hb dX8_calls_20 (by decide) ?_
    obtain rfl := Option.some.inj hf
    exact gs_ri hC hW rfl dX8_calls_29
  · replace hf := (if_neg c1).symm.trans hf
    refine lv_iload_n hx hb dX8_calls_9 rfl (lv_at hl 1 rfl) ?_
    refine lv_bipush (v := 12) hx hb dX8_calls_10 (by decide) ?_
    refine lv_icmp_lt (tgt := 23) hx hb dX8_calls_12 (by decide) (fun c3 => ?_) (fun c3 => ?_)
    · replace hf := (if_pos c3).symm.trans hf
      refine lv_aload_n hx hb dX8_calls_23 rfl (lv_at hl 0 rfl) ?_
      refine gs_get hC hW in_X8 0 29 rfl rfl (by decide) fl_X8_65 rfl dX8_calls_24 ?_
      refine lv_iload_n hx hb dX8_calls_27 rfl (lv_at hl 1 rfl) ?_
      obtain ⟨v4, h4, hf⟩ := g_bnd hf
      refine gs_iald hC hW 1 h4 rfl dX8_calls_28 ?_
      obtain rfl := Option.some.inj hf
      exact gs_ri hC hW rfl dX8_calls_29
    · replace hf := (if_neg c3).symm.trans hf
      refine lv_aload_n hx hb dX8_calls_15 rfl (lv_at hl 0 rfl) ?_
      refine lv_iconst (v := 1) hx hb dX8_calls_16 (by decide) ?_
      obtain ⟨o5, h5, hf⟩ := g_bnd hf
      refine gs_callVi (ws' := w_X8_calls cI cZ cJ a_t a_t_calls a_t_parameters a_t_length a_t_newLength a_t_first a_t_now a_t_anew a_t_table a_t_inputs a_t_met a_t_any a_t_number a_t_outAny a_t_out a_t_at a_t_in a_t_back a_t_register a_t_output a_t_latest a_t_differ o5.2 t_own t_count t_tableSize t_given t_known t_news t_depth t_steps t_taken t_shown t_outcome t_calls) hC hW (k_X8_fail l tA dC dI cI cZ cJ a_t a_t_parameters a_t_length a_t_newLength a_t_first a_t_now a_t_anew a_t_table a_t_inputs a_t_met a_t_any a_t_number a_t_outAny a_t_out a_t_at a_t_in a_t_back a_t_register a_t_output a_t_calls a_t_latest a_t_differ 1 0 t_own t_count t_tableSize t_given t_known t_news t_depth t_steps t_taken t_shown t_outcome _ h5) yk_X8_fail lk_X8_217 iv_X8_fail ⟨rfl, rfl⟩ ⟨Nat.le_of_ble_eq_true rfl, Nat.le_of_ble_eq_true rfl⟩ hl.1 0 rfl rfl [0] [1] [1, 0] rfl rfl rfl rfl (by decide) rfl rfl rfl rfl (Nat.le_of_ble_eq_true rfl) dX8_calls_17 ⟨Nat.zero_le _, Nat.zero_le _⟩ (fun H locs hW => ?_)
      refine lv_goto (tgt := 29) hx hb dX8_calls_20 (by decide) ?_
      obtain rfl := Option.some.inj hf
      exact gs_ri hC hW rfl dX8_calls_29

abbrev w_X8_isNamed (cI cZ cJ : ClassId) (a_t : Nat) : va_W := []
abbrev r_X8_isNamed : Room := { frames := 0, cells := 0, slots := 0, locals := 0 }
def f_X8_isNamed (x1 : Int32) (x2 : Int32) : Option (Int32) := if x1 < 0 then some 0 else if 12 ≤ x1 then some 0 else if x2 < 0 then some 0 else if 3 ≤ x2 then some 0 else some 1
set_option maxHeartbeats 4000000 in
set_option maxRecDepth 100000 in
theorem k_X8_isNamed (l : Launch) (tA : Nat) (dC : Nat → ClassId) (dI : Nat → Nat → Nat) (cI cZ cJ : ClassId) (a_t : Nat) (x1 : Int32) (x2 : Int32) (out : Int32) (hf : f_X8_isNamed x1 x2 = some out) : g_Mi l yX8_isNamed cX8_isNamed 3 (some .boolean) r_X8_isNamed tA dC dI cI cZ cJ [.ref a_t, .int x1, .int x2] (w_X8_isNamed cI cZ cJ a_t) (w_X8_isNamed cI cZ cJ a_t) out := by
  unfold f_X8_isNamed at hf
  refine ge_i (by decide) (Nat.le_of_ble_eq_true rfl) (fun p e s m below meth c A H locs ls hC hW hl => ?_)
  have hC : g_C p s m meth c _ cX8_isNamed 3 (some .boolean) RX8 := hC
  have hx := hC.1
  have hb := hC.2.1
  have hown := hC.2.2.2.2.1
  have hts := hC.2.2.2.2.2.1
  have hl : lv_has ls 3 [(0, .ref a_t), (1, .int x1), (2, .int x2)] := hl
  refine lv_iload_n hx hb dX8_isNamed_0 rfl (lv_at hl 1 rfl) ?_
  refine lv_if_lt (tgt := 23) hx hb dX8_isNamed_1 (by decide) (fun c1 => ?_) (fun c1 => ?_)
  · replace hf := (if_pos c1).symm.trans hf
    refine lv_iconst (v := 0) hx hb dX8_isNamed_23 (by decide) ?_
    obtain rfl := Option.some.inj hf
    exact gs_rz hC hW rfl g_n0 dX8_isNamed_24
  · replace hf := (if_neg c1).symm.trans hf
    refine lv_iload_n hx hb dX8_isNamed_4 rfl (lv_at hl 1 rfl) ?_
    refine lv_bipush (v := 12) hx hb dX8_isNamed_5 (by decide) ?_
    refine lv_icmp_ge (tgt := 23) hx hb dX8_isNamed_7 (by decide) (fun c2 => ?_) (fun c2 => ?_)
    · replace hf := (if_pos c2).symm.trans hf
      refine lv_iconst (v := 0) hx hb dX8_isNamed_23 (by decide) ?_
      obtain rfl := Option.some.inj hf
      exact gs_rz hC hW rfl g_n0 dX8_isNamed_24
    · replace hf := (if_neg c2).symm.trans hf
      refine lv_iload_n hx hb dX8_isNamed_10 rfl (lv_at hl 2 rfl) ?_
      refine lv_if_lt (tgt := 23) hx hb dX8_isNamed_11 (by decide) (fun c3 => ?_) (fun c3 => ?_)
      · replace hf := (if_pos c3).symm.trans hf
        refine lv_iconst (v := 0) hx hb dX8_isNamed_23 (by decide) ?_
        obtain rfl := Option.some.inj hf
        exact gs_rz hC hW rfl g_n0 dX8_isNamed_24
      · replace hf := (if_neg c3).symm.trans hf
        refine lv_iload_n hx hb dX8_isNamed_14 rfl (lv_at hl 2 rfl) ?_
        refine lv_iconst (v := 3) hx hb dX8_isNamed_15 (by decide) ?_
        refine lv_icmp_ge (tgt := 23) hx hb dX8_isNamed_16 (by decide) (fun c4 => ?_) (fun c4 => ?_)
        · replace hf := (if_pos c4).symm.trans hf
          refine lv_iconst (v := 0) hx hb dX8_isNamed_23 (by decide) ?_
          obtain rfl := Option.some.inj hf
          exact gs_rz hC hW rfl g_n0 dX8_isNamed_24
        · replace hf := (if_neg c4).symm.trans hf
          refine lv_iconst (v := 1) hx hb dX8_isNamed_19 (by decide) ?_
          refine lv_goto (tgt := 24) hx hb dX8_isNamed_20 (by decide) ?_
          obtain rfl := Option.some.inj hf
          exact gs_rz hC hW rfl g_n1 dX8_isNamed_24

abbrev w_X8_same (cI cZ cJ : ClassId) (a_t : Nat) (a_t_calls : Nat) (a_t_differ : Nat) (a_t_parameters : Nat) (a_t_length : Nat) (a_t_newLength : Nat) (a_t_first : Nat) (a_t_now : Nat) (a_t_anew : Nat) (a_t_table : Nat) (a_t_inputs : Nat) (a_t_met : Nat) (a_t_any : Nat) (a_t_number : Nat) (a_t_outAny : Nat) (a_t_out : Nat) (a_t_at : Nat) (a_t_in : Nat) (a_t_back : Nat) (a_t_register : Nat) (a_t_output : Nat) (a_t_latest : Nat) (t_code : Int32) (t_own : Int32) (t_count : Int32) (t_tableSize : Int32) (t_given : Int32) (t_known : Int32) (t_news : Int32) (t_depth : Int32) (t_steps : Int32) (t_taken : Int32) (t_shown : Int32) (t_outcome : Int32) (t_calls : Nat → Int32) (t_differ : Nat → Int32) : va_W := [(a_t, .inr (8, [.int t_code, .int t_own, .int t_count, .ref a_t_parameters, .ref a_t_length, .ref a_t_newLength, .ref a_t_first, .ref a_t_now, .ref a_t_anew, .int t_tableSize, .ref a_t_table, .int t_given, .ref a_t_inputs, .int t_known, .ref a_t_met, .ref a_t_any, .ref a_t_number, .int t_news, .ref a_t_outAny, .ref a_t_out, .int t_depth, .int t_steps, .int t_taken, .int t_shown, .ref a_t_at, .ref a_t_in, .ref a_t_back, .ref a_t_register, .ref a_t_output, .ref a_t_calls, .ref a_t_latest, .ref a_t_differ, .int t_outcome])), (a_t_calls, .inl (cI, 12, .inl t_calls)), (a_t_differ, .inl (cZ, 36, .inl t_differ))]
abbrev r_X8_same : Room := { frames := 1, cells := 0, slots := 0, locals := 22 }
def f_X8_same_15 (x1 : Int32) (x2 : Int32) (t_calls : Nat → Int32) (t_differ : Nat → Int32) (z0 : Int32) (t_code : Int32) : Option (Int32 × Int32) := if z0 = 0 then (g_rd 12 t_calls x1).bind (fun v2 => if v2 ≤ 0 then some (0, z0) else (g_rd 36 t_differ ((3 * x1) + x2)).bind (fun v4 => if v4 = 0 then some (1, z0) else some (0, z0))) else some (0, z0)
set_option maxHeartbeats 4000000 in
set_option maxRecDepth 100000 in
theorem b_X8_same_15 {p : Program} {l : Launch} {e : Env} {s : State} {m : MethodId} {args : Array Value} {below : List Frame} {meth : Method} {c : Code} {tA : Nat} {dC : Nat → ClassId} {dI : Nat → Nat → Nat} {cI cZ cJ : ClassId} {A : Nat → Prop} {a_t : Nat} {a_t_calls : Nat} {a_t_differ : Nat} {a_t_parameters : Nat} {a_t_length : Nat} {a_t_newLength : Nat} {a_t_first : Nat} {a_t_now : Nat} {a_t_anew : Nat} {a_t_table : Nat} {a_t_inputs : Nat} {a_t_met : Nat} {a_t_any : Nat} {a_t_number : Nat} {a_t_outAny : Nat} {a_t_out : Nat} {a_t_at : Nat} {a_t_in : Nat} {a_t_back : Nat} {a_t_register : Nat} {a_t_output : Nat} {a_t_latest : Nat} {x1 : Int32} {x2 : Int32} {t_calls : Nat → Int32} {t_differ : Nat → Int32} {t_own : Int32} {t_count : Int32} {t_tableSize : Int32} {t_given : Int32} {t_known : Int32} {t_news : Int32} {t_depth : Int32} {t_steps : Int32} {t_taken : Int32} {t_shown : Int32} {t_outcome : Int32} {z0 : Int32} {t_code : Int32} {out : Int32 × Int32} (hC : g_C p s m meth c args cX8_same 3 (some .boolean) RX8) (hf : f_X8_same_15 x1 x2 t_calls t_differ z0 t_code = some out) {H : Heap} {locs : List Loc} {ls : Array Slot} (hW : g_W tA dC dI cI cZ cJ A s H locs (w_X8_same cI cZ cJ a_t a_t_calls a_t_differ a_t_parameters a_t_length a_t_newLength a_t_first a_t_now a_t_anew a_t_table a_t_inputs a_t_met a_t_any a_t_number a_t_outAny a_t_out a_t_at a_t_in a_t_back a_t_register a_t_output a_t_latest t_code t_own t_count t_tableSize t_given t_known t_news t_depth t_steps t_taken t_shown t_outcome t_calls t_differ)) (hl : lv_has ls 3 [(0, .ref a_t), (1, .int x1), (2, .int x2)]) : W p l e r_X8_same s m args below meth c H locs 0 0 (MQ below (g_Qi dC dI cI cZ cJ A (w_X8_same cI cZ cJ a_t a_t_calls a_t_differ a_t_parameters a_t_length a_t_newLength a_t_first a_t_now a_t_anew a_t_table a_t_inputs a_t_met a_t_any a_t_number a_t_outAny a_t_out a_t_at a_t_in a_t_back a_t_register a_t_output a_t_latest out.2 t_own t_count t_tableSize t_given t_known t_news t_depth t_steps t_taken t_shown t_outcome t_calls t_differ) out.1) args s 0 0 A) (F0 m 15 ls [.int z0, .ref a_t]) := by
  have hx := hC.1
  have hb := hC.2.1
  have hown := hC.2.2.2.2.1
  have hts := hC.2.2.2.2.2.1
  unfold f_X8_same_15 at hf
  refine gs_put (ws' := w_X8_same cI cZ cJ a_t a_t_calls a_t_differ a_t_parameters a_t_length a_t_newLength a_t_first a_t_now a_t_anew a_t_table a_t_inputs a_t_met a_t_any a_t_number a_t_outAny a_t_out a_t_at a_t_in a_t_back a_t_register a_t_output a_t_latest z0 t_own t_count t_tableSize t_given t_known t_news t_depth t_steps t_taken t_shown t_outcome t_calls t_differ) hC hW in_X8 tyX8_ok nmX8 0 0 rfl rfl (by decide) fl_X8_74 rfl rfl rfl (Nat.le_of_ble_eq_true rfl) rfl dX8_same_15 (fun H locs hW => ?_)
  refine lv_aload_n hx hb dX8_same_18 rfl (lv_at hl 0 rfl) ?_
  refine gs_get hC hW in_X8 0 0 rfl rfl (by decide) fl_X8_74 rfl dX8_same_19 ?_
  refine lv_if_ne (tgt := 51) hx hb dX8_same_22 (by decide) (fun c1 => ?_) (fun c1 => ?_)
  · replace hf := (if_neg c1).symm.trans hf
    refine lv_iconst (v := 0) hx hb dX8_same_51 (by decide) ?_
    obtain rfl := Option.some.inj hf
    exact gs_rz hC hW rfl g_n0 dX8_same_52
  · replace hf := (if_pos c1).symm.trans hf
    refine lv_aload_n hx hb dX8_same_25 rfl (lv_at hl 0 rfl) ?_
    refine gs_get hC hW in_X8 0 29 rfl rfl (by decide) fl_X8_65 rfl dX8_same_26 ?_
    refine lv_iload_n hx hb dX8_same_29 rfl (lv_at hl 1 rfl) ?_
    obtain ⟨v2, h2, hf⟩ := g_bnd hf
    refine gs_iald hC hW 1 h2 rfl dX8_same_30 ?_
    refine lv_if_le (tgt := 51) hx hb dX8_same_31 (by decide) (fun c3 => ?_) (fun c3 => ?_)
    · replace hf := (if_pos c3).symm.trans hf
      refine lv_iconst (v := 0) hx hb dX8_same_51 (by decide) ?_
      obtain rfl := Option.some.inj hf
      exact gs_rz hC hW rfl g_n0 dX8_same_52
    · replace hf := (if_neg c3).symm.trans hf
      refine lv_aload_n hx hb dX8_same_34 rfl (lv_at hl 0 rfl) ?_
      refine gs_get hC hW in_X8 0 31 rfl rfl (by decide) fl_X8_71 rfl dX8_same_35 ?_
      refine lv_iconst (v := 3) hx hb dX8_same_38 (by decide) ?_
      refine lv_iload_n hx hb dX8_same_39 rfl (lv_at hl 1 rfl) ?_
      refine lv_imul hx hb dX8_same_40 ?_
      refine lv_iload_n hx hb dX8_same_41 rfl (lv_at hl 2 rfl) ?_
      refine lv_iadd hx hb dX8_same_42 ?_
      obtain ⟨v4, h4, hf⟩ := g_bnd hf
      refine gs_zald hC hW 2 h4 rfl dX8_same_43 ?_
      refine lv_if_ne (tgt := 51) hx hb dX8_same_44 (by decide) (fun c5 => ?_) (fun c5 => ?_)
      · replace hf := (if_neg c5).symm.trans hf
        refine lv_iconst (v := 0) hx hb dX8_same_51 (by decide) ?_
        obtain rfl := Option.some.inj hf
        exact gs_rz hC hW rfl g_n0 dX8_same_52
      · replace hf := (if_pos c5).symm.trans hf
        refine lv_iconst (v := 1) hx hb dX8_same_47 (by decide) ?_
        refine lv_goto (tgt := 52) hx hb dX8_same_48 (by decide) ?_
        obtain rfl := Option.some.inj hf
        exact gs_rz hC hW rfl g_n1 dX8_same_52
def f_X8_same (x1 : Int32) (x2 : Int32) (t_code : Int32) (t_calls : Nat → Int32) (t_differ : Nat → Int32) : Option (Int32 × Int32) := (f_X8_isNamed x1 x2).bind (fun o6 => if o6 = 0 then f_X8_same_15 x1 x2 t_calls t_differ 1 t_code else f_X8_same_15 x1 x2 t_calls t_differ 0 t_code)
set_option maxHeartbeats 4000000 in
set_option maxRecDepth 100000 in
theorem k_X8_same (l : Launch) (tA : Nat) (dC : Nat → ClassId) (dI : Nat → Nat → Nat) (cI cZ cJ : ClassId) (a_t : Nat) (a_t_calls : Nat) (a_t_differ : Nat) (a_t_parameters : Nat) (a_t_length : Nat) (a_t_newLength : Nat) (a_t_first : Nat) (a_t_now : Nat) (a_t_anew : Nat) (a_t_table : Nat) (a_t_inputs : Nat) (a_t_met : Nat) (a_t_any : Nat) (a_t_number : Nat) (a_t_outAny : Nat) (a_t_out : Nat) (a_t_at : Nat) (a_t_in : Nat) (a_t_back : Nat) (a_t_register : Nat) (a_t_output : Nat) (a_t_latest : Nat) (x1 : Int32) (x2 : Int32) (t_code : Int32) (t_own : Int32) (t_count : Int32) (t_tableSize : Int32) (t_given : Int32) (t_known : Int32) (t_news : Int32) (t_depth : Int32) (t_steps : Int32) (t_taken : Int32) (t_shown : Int32) (t_outcome : Int32) (t_calls : Nat → Int32) (t_differ : Nat → Int32) (out : Int32 × Int32) (hf : f_X8_same x1 x2 t_code t_calls t_differ = some out) : g_Mi l yX8_same cX8_same 3 (some .boolean) r_X8_same tA dC dI cI cZ cJ [.ref a_t, .int x1, .int x2] (w_X8_same cI cZ cJ a_t a_t_calls a_t_differ a_t_parameters a_t_length a_t_newLength a_t_first a_t_now a_t_anew a_t_table a_t_inputs a_t_met a_t_any a_t_number a_t_outAny a_t_out a_t_at a_t_in a_t_back a_t_register a_t_output a_t_latest t_code t_own t_count t_tableSize t_given t_known t_news t_depth t_steps t_taken t_shown t_outcome t_calls t_differ) (w_X8_same cI cZ cJ a_t a_t_calls a_t_differ a_t_parameters a_t_length a_t_newLength a_t_first a_t_now a_t_anew a_t_table a_t_inputs a_t_met a_t_any a_t_number a_t_outAny a_t_out a_t_at a_t_in a_t_back a_t_register a_t_output a_t_latest out.2 t_own t_count t_tableSize t_given t_known t_news t_depth t_steps t_taken t_shown t_outcome t_calls t_differ) out.1 := by
  unfold f_X8_same at hf
  refine ge_i (by decide) (Nat.le_of_ble_eq_true rfl) (fun p e s m below meth c A H locs ls hC hW hl => ?_)
  have hC : g_C p s m meth c _ cX8_same 3 (some .boolean) RX8 := hC
  have hx := hC.1
  have hb := hC.2.1
  have hown := hC.2.2.2.2.1
  have hts := hC.2.2.2.2.2.1
  have hl : lv_has ls 3 [(0, .ref a_t), (1, .int x1), (2, .int x2)] := hl
  refine lv_aload_n hx hb dX8_same_0 rfl (lv_at hl 0 rfl) ?_
  refine lv_aload_n hx hb dX8_same_1 rfl (lv_at hl 0 rfl) ?_
  refine lv_iload_n hx hb dX8_same_2 rfl (lv_at hl 1 rfl) ?_
  refine lv_iload_n hx hb dX8_same_3 rfl (lv_at hl 2 rfl) ?_
  obtain ⟨o6, h6, hf⟩ := g_bnd hf
  refine gs_callVi (ws' := w_X8_same cI cZ cJ a_t a_t_calls a_t_differ a_t_parameters a_t_length a_t_newLength a_t_first a_t_now a_t_anew a_t_table a_t_inputs a_t_met a_t_any a_t_number a_t_outAny a_t_out a_t_at a_t_in a_t_back a_t_register a_t_output a_t_latest t_code t_own t_count t_tableSize t_given t_known t_news t_depth t_steps t_taken t_shown t_outcome t_calls t_differ) hC hW (k_X8_isNamed l tA dC dI cI cZ cJ a_t x1 x2 _ h6) yk_X8_isNamed lk_X8_220 iv_X8_isNamed ⟨rfl, rfl⟩ ⟨Nat.le_of_ble_eq_true rfl, Nat.le_of_ble_eq_true rfl⟩ hl.1 0 rfl rfl [] [0, 1, 2] [0, 1, 2] rfl rfl rfl rfl (by decide) rfl rfl rfl rfl (Nat.le_of_ble_eq_true rfl) dX8_same_4 ⟨Nat.zero_le _, Nat.zero_le _⟩ (fun H locs hW => ?_)
  refine lv_if_eq (tgt := 14) hx hb dX8_same_7 (by decide) (fun c7 => ?_) (fun c7 => ?_)
  · replace hf := (if_pos c7).symm.trans hf
    refine lv_iconst (v := 1) hx hb dX8_same_14 (by decide) ?_
    exact b_X8_same_15 hC hf hW (lv_sub hl [0, 1, 2] rfl)
  · replace hf := (if_neg c7).symm.trans hf
    refine lv_iconst (v := 0) hx hb dX8_same_10 (by decide) ?_
    refine lv_goto (tgt := 15) hx hb dX8_same_11 (by decide) ?_
    exact b_X8_same_15 hC hf hW (lv_sub hl [0, 1, 2] rfl)

abbrev w_X8_latest (cI cZ cJ : ClassId) (a_t : Nat) (a_t_latest : Nat) (a_t_parameters : Nat) (a_t_length : Nat) (a_t_newLength : Nat) (a_t_first : Nat) (a_t_now : Nat) (a_t_anew : Nat) (a_t_table : Nat) (a_t_inputs : Nat) (a_t_met : Nat) (a_t_any : Nat) (a_t_number : Nat) (a_t_outAny : Nat) (a_t_out : Nat) (a_t_at : Nat) (a_t_in : Nat) (a_t_back : Nat) (a_t_register : Nat) (a_t_output : Nat) (a_t_calls : Nat) (a_t_differ : Nat) (t_code : Int32) (t_own : Int32) (t_count : Int32) (t_tableSize : Int32) (t_given : Int32) (t_known : Int32) (t_news : Int32) (t_depth : Int32) (t_steps : Int32) (t_taken : Int32) (t_shown : Int32) (t_outcome : Int32) (t_latest : Nat → Int32) : va_W := [(a_t, .inr (8, [.int t_code, .int t_own, .int t_count, .ref a_t_parameters, .ref a_t_length, .ref a_t_newLength, .ref a_t_first, .ref a_t_now, .ref a_t_anew, .int t_tableSize, .ref a_t_table, .int t_given, .ref a_t_inputs, .int t_known, .ref a_t_met, .ref a_t_any, .ref a_t_number, .int t_news, .ref a_t_outAny, .ref a_t_out, .int t_depth, .int t_steps, .int t_taken, .int t_shown, .ref a_t_at, .ref a_t_in, .ref a_t_back, .ref a_t_register, .ref a_t_output, .ref a_t_calls, .ref a_t_latest, .ref a_t_differ, .int t_outcome])), (a_t_latest, .inl (cI, 36, .inl t_latest))]
abbrev r_X8_latest : Room := { frames := 1, cells := 0, slots := 0, locals := 22 }
def f_X8_latest_15 (x1 : Int32) (x2 : Int32) (t_latest : Nat → Int32) (z0 : Int32) (t_code : Int32) : Option (Int32 × Int32) := if z0 = 0 then (g_rd 36 t_latest ((3 * x1) + x2)).bind (fun v2 => some (v2, z0)) else some (0, z0)
set_option maxHeartbeats 4000000 in
set_option maxRecDepth 100000 in
theorem b_X8_latest_15 {p : Program} {l : Launch} {e : Env} {s : State} {m : MethodId} {args : Array Value} {below : List Frame} {meth : Method} {c : Code} {tA : Nat} {dC : Nat → ClassId} {dI : Nat → Nat → Nat} {cI cZ cJ : ClassId} {A : Nat → Prop} {a_t : Nat} {a_t_latest : Nat} {a_t_parameters : Nat} {a_t_length : Nat} {a_t_newLength : Nat} {a_t_first : Nat} {a_t_now : Nat} {a_t_anew : Nat} {a_t_table : Nat} {a_t_inputs : Nat} {a_t_met : Nat} {a_t_any : Nat} {a_t_number : Nat} {a_t_outAny : Nat} {a_t_out : Nat} {a_t_at : Nat} {a_t_in : Nat} {a_t_back : Nat} {a_t_register : Nat} {a_t_output : Nat} {a_t_calls : Nat} {a_t_differ : Nat} {x1 : Int32} {x2 : Int32} {t_latest : Nat → Int32} {t_own : Int32} {t_count : Int32} {t_tableSize : Int32} {t_given : Int32} {t_known : Int32} {t_news : Int32} {t_depth : Int32} {t_steps : Int32} {t_taken : Int32} {t_shown : Int32} {t_outcome : Int32} {z0 : Int32} {t_code : Int32} {out : Int32 × Int32} (hC : g_C p s m meth c args cX8_latest 3 (some .int) RX8) (hf : f_X8_latest_15 x1 x2 t_latest z0 t_code = some out) {H : Heap} {locs : List Loc} {ls : Array Slot} (hW : g_W tA dC dI cI cZ cJ A s H locs (w_X8_latest cI cZ cJ a_t a_t_latest a_t_parameters a_t_length a_t_newLength a_t_first a_t_now a_t_anew a_t_table a_t_inputs a_t_met a_t_any a_t_number a_t_outAny a_t_out a_t_at a_t_in a_t_back a_t_register a_t_output a_t_calls a_t_differ t_code t_own t_count t_tableSize t_given t_known t_news t_depth t_steps t_taken t_shown t_outcome t_latest)) (hl : lv_has ls 3 [(0, .ref a_t), (1, .int x1), (2, .int x2)]) : W p l e r_X8_latest s m args below meth c H locs 0 0 (MQ below (g_Qi dC dI cI cZ cJ A (w_X8_latest cI cZ cJ a_t a_t_latest a_t_parameters a_t_length a_t_newLength a_t_first a_t_now a_t_anew a_t_table a_t_inputs a_t_met a_t_any a_t_number a_t_outAny a_t_out a_t_at a_t_in a_t_back a_t_register a_t_output a_t_calls a_t_differ out.2 t_own t_count t_tableSize t_given t_known t_news t_depth t_steps t_taken t_shown t_outcome t_latest) out.1) args s 0 0 A) (F0 m 15 ls [.int z0, .ref a_t]) := by
  have hx := hC.1
  have hb := hC.2.1
  have hown := hC.2.2.2.2.1
  have hts := hC.2.2.2.2.2.1
  unfold f_X8_latest_15 at hf
  refine gs_put (ws' := w_X8_latest cI cZ cJ a_t a_t_latest a_t_parameters a_t_length a_t_newLength a_t_first a_t_now a_t_anew a_t_table a_t_inputs a_t_met a_t_any a_t_number a_t_outAny a_t_out a_t_at a_t_in a_t_back a_t_register a_t_output a_t_calls a_t_differ z0 t_own t_count t_tableSize t_given t_known t_news t_depth t_steps t_taken t_shown t_outcome t_latest) hC hW in_X8 tyX8_ok nmX8 0 0 rfl rfl (by decide) fl_X8_74 rfl rfl rfl (Nat.le_of_ble_eq_true rfl) rfl dX8_latest_15 (fun H locs hW => ?_)
  refine lv_aload_n hx hb dX8_latest_18 rfl (lv_at hl 0 rfl) ?_
  refine gs_get hC hW in_X8 0 0 rfl rfl (by decide) fl_X8_74 rfl dX8_latest_19 ?_
  refine lv_if_ne (tgt := 38) hx hb dX8_latest_22 (by decide) (fun c1 => ?_) (fun c1 => ?_)
  · replace hf := (if_neg c1).symm.trans hf
    refine lv_iconst (v := 0) hx hb dX8_latest_38 (by decide) ?_
    obtain rfl := Option.some.inj hf
    exact gs_ri hC hW rfl dX8_latest_39
  · replace hf := (if_pos c1).symm.trans hf
    refine lv_aload_n hx hb dX8_latest_25 rfl (lv_at hl 0 rfl) ?_
    refine gs_get hC hW in_X8 0 30 rfl rfl (by decide) fl_X8_68 rfl dX8_latest_26 ?_
    refine lv_iconst (v := 3) hx hb dX8_latest_29 (by decide) ?_
    refine lv_iload_n hx hb dX8_latest_30 rfl (lv_at hl 1 rfl) ?_
    refine lv_imul hx hb dX8_latest_31 ?_
    refine lv_iload_n hx hb dX8_latest_32 rfl (lv_at hl 2 rfl) ?_
    refine lv_iadd hx hb dX8_latest_33 ?_
    obtain ⟨v2, h2, hf⟩ := g_bnd hf
    refine gs_iald hC hW 1 h2 rfl dX8_latest_34 ?_
    refine lv_goto (tgt := 39) hx hb dX8_latest_35 (by decide) ?_
    obtain rfl := Option.some.inj hf
    exact gs_ri hC hW rfl dX8_latest_39
def f_X8_latest (x1 : Int32) (x2 : Int32) (t_code : Int32) (t_latest : Nat → Int32) : Option (Int32 × Int32) := (f_X8_isNamed x1 x2).bind (fun o3 => if o3 = 0 then f_X8_latest_15 x1 x2 t_latest 1 t_code else f_X8_latest_15 x1 x2 t_latest 0 t_code)
set_option maxHeartbeats 4000000 in
set_option maxRecDepth 100000 in
theorem k_X8_latest (l : Launch) (tA : Nat) (dC : Nat → ClassId) (dI : Nat → Nat → Nat) (cI cZ cJ : ClassId) (a_t : Nat) (a_t_latest : Nat) (a_t_parameters : Nat) (a_t_length : Nat) (a_t_newLength : Nat) (a_t_first : Nat) (a_t_now : Nat) (a_t_anew : Nat) (a_t_table : Nat) (a_t_inputs : Nat) (a_t_met : Nat) (a_t_any : Nat) (a_t_number : Nat) (a_t_outAny : Nat) (a_t_out : Nat) (a_t_at : Nat) (a_t_in : Nat) (a_t_back : Nat) (a_t_register : Nat) (a_t_output : Nat) (a_t_calls : Nat) (a_t_differ : Nat) (x1 : Int32) (x2 : Int32) (t_code : Int32) (t_own : Int32) (t_count : Int32) (t_tableSize : Int32) (t_given : Int32) (t_known : Int32) (t_news : Int32) (t_depth : Int32) (t_steps : Int32) (t_taken : Int32) (t_shown : Int32) (t_outcome : Int32) (t_latest : Nat → Int32) (out : Int32 × Int32) (hf : f_X8_latest x1 x2 t_code t_latest = some out) : g_Mi l yX8_latest cX8_latest 3 (some .int) r_X8_latest tA dC dI cI cZ cJ [.ref a_t, .int x1, .int x2] (w_X8_latest cI cZ cJ a_t a_t_latest a_t_parameters a_t_length a_t_newLength a_t_first a_t_now a_t_anew a_t_table a_t_inputs a_t_met a_t_any a_t_number a_t_outAny a_t_out a_t_at a_t_in a_t_back a_t_register a_t_output a_t_calls a_t_differ t_code t_own t_count t_tableSize t_given t_known t_news t_depth t_steps t_taken t_shown t_outcome t_latest) (w_X8_latest cI cZ cJ a_t a_t_latest a_t_parameters a_t_length a_t_newLength a_t_first a_t_now a_t_anew a_t_table a_t_inputs a_t_met a_t_any a_t_number a_t_outAny a_t_out a_t_at a_t_in a_t_back a_t_register a_t_output a_t_calls a_t_differ out.2 t_own t_count t_tableSize t_given t_known t_news t_depth t_steps t_taken t_shown t_outcome t_latest) out.1 := by
  unfold f_X8_latest at hf
  refine ge_i (by decide) (Nat.le_of_ble_eq_true rfl) (fun p e s m below meth c A H locs ls hC hW hl => ?_)
  have hC : g_C p s m meth c _ cX8_latest 3 (some .int) RX8 := hC
  have hx := hC.1
  have hb := hC.2.1
  have hown := hC.2.2.2.2.1
  have hts := hC.2.2.2.2.2.1
  have hl : lv_has ls 3 [(0, .ref a_t), (1, .int x1), (2, .int x2)] := hl
  refine lv_aload_n hx hb dX8_latest_0 rfl (lv_at hl 0 rfl) ?_
  refine lv_aload_n hx hb dX8_latest_1 rfl (lv_at hl 0 rfl) ?_
  refine lv_iload_n hx hb dX8_latest_2 rfl (lv_at hl 1 rfl) ?_
  refine lv_iload_n hx hb dX8_latest_3 rfl (lv_at hl 2 rfl) ?_
  obtain ⟨o3, h3, hf⟩ := g_bnd hf
  refine gs_callVi (ws' := w_X8_latest cI cZ cJ a_t a_t_latest a_t_parameters a_t_length a_t_newLength a_t_first a_t_now a_t_anew a_t_table a_t_inputs a_t_met a_t_any a_t_number a_t_outAny a_t_out a_t_at a_t_in a_t_back a_t_register a_t_output a_t_calls a_t_differ t_code t_own t_count t_tableSize t_given t_known t_news t_depth t_steps t_taken t_shown t_outcome t_latest) hC hW (k_X8_isNamed l tA dC dI cI cZ cJ a_t x1 x2 _ h3) yk_X8_isNamed lk_X8_220 iv_X8_isNamed ⟨rfl, rfl⟩ ⟨Nat.le_of_ble_eq_true rfl, Nat.le_of_ble_eq_true rfl⟩ hl.1 0 rfl rfl [] [0, 1] [0, 1] rfl rfl rfl rfl (by decide) rfl rfl rfl rfl (Nat.le_of_ble_eq_true rfl) dX8_latest_4 ⟨Nat.zero_le _, Nat.zero_le _⟩ (fun H locs hW => ?_)
  refine lv_if_eq (tgt := 14) hx hb dX8_latest_7 (by decide) (fun c4 => ?_) (fun c4 => ?_)
  · replace hf := (if_pos c4).symm.trans hf
    refine lv_iconst (v := 1) hx hb dX8_latest_14 (by decide) ?_
    exact b_X8_latest_15 hC hf hW (lv_sub hl [0, 1, 2] rfl)
  · replace hf := (if_neg c4).symm.trans hf
    refine lv_iconst (v := 0) hx hb dX8_latest_10 (by decide) ?_
    refine lv_goto (tgt := 15) hx hb dX8_latest_11 (by decide) ?_
    exact b_X8_latest_15 hC hf hW (lv_sub hl [0, 1, 2] rfl)
