theorem yk_X8_agree : g_Y yX8_agree cX8_agree 8 (some .boolean) 2 := ⟨gw_i 988 (by decide +kernel) rfl, gw_i 64 (by decide +kernel) rfl, by decide +kernel, by decide +kernel, by decide +kernel⟩
theorem lk_X8_161 : Cond.methodLink RX8 161 yX8_agree ∈ gw := gw_i 985 (by decide +kernel) rfl
theorem iv_X8_agree : Cond.instanceMethod yX8_agree ∈ gw ∧ Cond.selects RX8 yX8_agree yX8_agree ∈ gw := ⟨gw_i 987 (by decide +kernel) rfl, gw_i 44 (by decide +kernel) rfl⟩
theorem yk_X8_isSpecial : g_Y yX8_isSpecial cX8_isSpecial 5 (some .boolean) 1 := ⟨gw_i 977 (by decide +kernel) rfl, gw_i 64 (by decide +kernel) rfl, by decide +kernel, by decide +kernel, by decide +kernel⟩
theorem lk_X8_158 : Cond.methodLink RX8 158 yX8_isSpecial ∈ gw := gw_i 974 (by decide +kernel) rfl
theorem iv_X8_isSpecial : Cond.instanceMethod yX8_isSpecial ∈ gw ∧ Cond.selects RX8 yX8_isSpecial yX8_isSpecial ∈ gw := ⟨gw_i 976 (by decide +kernel) rfl, gw_i 42 (by decide +kernel) rfl⟩
theorem fl_X8_25 : Cond.fieldLink RX8 25 (TX8 8).1 (TX8 8).2.1 (TX8 8).2.2.1 ∈ gw := gw_i 788 (by decide +kernel) rfl
theorem lk_X8_174 : Cond.methodLink RX8 174 yX8_operandOf ∈ gw := gw_i 993 (by decide +kernel) rfl
theorem yk_X8_operandOf : g_Y yX8_operandOf cX8_operandOf 1 (some .int) 1 := ⟨gw_i 995 (by decide +kernel) rfl, gw_i 64 (by decide +kernel) rfl, by decide +kernel, by decide +kernel, by decide +kernel⟩
theorem is_X8_operandOf : Cond.static yX8_operandOf ∈ gw := gw_i 994 (by decide +kernel) rfl
theorem fl_X8_16 : Cond.fieldLink RX8 16 (TX8 5).1 (TX8 5).2.1 (TX8 5).2.2.1 ∈ gw := gw_i 785 (by decide +kernel) rfl
theorem yk_X8_renew : g_Y yX8_renew cX8_renew 8 (none : Option Jvm.ClassFile.FieldType) 2 := ⟨gw_i 992 (by decide +kernel) rfl, gw_i 64 (by decide +kernel) rfl, by decide +kernel, by decide +kernel, by decide +kernel⟩
theorem lk_X8_171 : Cond.methodLink RX8 171 yX8_renew ∈ gw := gw_i 989 (by decide +kernel) rfl
theorem iv_X8_renew : Cond.instanceMethod yX8_renew ∈ gw ∧ Cond.selects RX8 yX8_renew yX8_renew ∈ gw := ⟨gw_i 991 (by decide +kernel) rfl, gw_i 45 (by decide +kernel) rfl⟩
theorem yk_X8_specialises : g_Y yX8_specialises cX8_specialises 4 (some .boolean) 0 := ⟨gw_i 973 (by decide +kernel) rfl, gw_i 64 (by decide +kernel) rfl, by decide +kernel, by decide +kernel, by decide +kernel⟩
theorem lk_X8_167 : Cond.methodLink RX8 167 yX8_specialises ∈ gw := gw_i 970 (by decide +kernel) rfl
theorem iv_X8_specialises : Cond.instanceMethod yX8_specialises ∈ gw ∧ Cond.selects RX8 yX8_specialises yX8_specialises ∈ gw := ⟨gw_i 972 (by decide +kernel) rfl, gw_i 41 (by decide +kernel) rfl⟩
theorem yk_X8_learn : g_Y yX8_learn cX8_learn 4 (none : Option Jvm.ClassFile.FieldType) 0 := ⟨gw_i 929 (by decide +kernel) rfl, gw_i 64 (by decide +kernel) rfl, by decide +kernel, by decide +kernel, by decide +kernel⟩
theorem lk_X8_164 : Cond.methodLink RX8 164 yX8_learn ∈ gw := gw_i 926 (by decide +kernel) rfl
theorem iv_X8_learn : Cond.instanceMethod yX8_learn ∈ gw ∧ Cond.selects RX8 yX8_learn yX8_learn ∈ gw := ⟨gw_i 928 (by decide +kernel) rfl, gw_i 32 (by decide +kernel) rfl⟩
theorem yk_X8_find : g_Y yX8_find cX8_find 4 (some .int) 3 := ⟨gw_i 1007 (by decide +kernel) rfl, gw_i 64 (by decide +kernel) rfl, by decide +kernel, by decide +kernel, by decide +kernel⟩
theorem lk_X8_177 : Cond.methodLink RX8 177 yX8_find ∈ gw := gw_i 1004 (by decide +kernel) rfl
theorem iv_X8_find : Cond.instanceMethod yX8_find ∈ gw ∧ Cond.selects RX8 yX8_find yX8_find ∈ gw := ⟨gw_i 1006 (by decide +kernel) rfl, gw_i 46 (by decide +kernel) rfl⟩
theorem fl_X8_59 : Cond.fieldLink RX8 59 (TX8 27).1 (TX8 27).2.1 (TX8 27).2.2.1 ∈ gw := gw_i 807 (by decide +kernel) rfl
theorem fl_X8_180 : Cond.fieldLink RX8 180 (TX8 20).1 (TX8 20).2.1 (TX8 20).2.2.1 ∈ gw := gw_i 800 (by decide +kernel) rfl
theorem fl_X8_71 : Cond.fieldLink RX8 71 (TX8 31).1 (TX8 31).2.1 (TX8 31).2.2.1 ∈ gw := gw_i 811 (by decide +kernel) rfl
theorem fl_X8_68 : Cond.fieldLink RX8 68 (TX8 30).1 (TX8 30).2.1 (TX8 30).2.2.1 ∈ gw := gw_i 810 (by decide +kernel) rfl
theorem fl_X8_65 : Cond.fieldLink RX8 65 (TX8 29).1 (TX8 29).2.1 (TX8 29).2.2.1 ∈ gw := gw_i 809 (by decide +kernel) rfl
abbrev w_X8_specialises (cI cZ cJ : ClassId) (a_t : Nat) (a_t_parameters : Nat) (a_t_length : Nat) (a_t_now : Nat) (a_t_met : Nat) (a_t_any : Nat) (a_t_number : Nat) (a_t_newLength : Nat) (a_t_first : Nat) (a_t_anew : Nat) (a_t_table : Nat) (a_t_inputs : Nat) (a_t_outAny : Nat) (a_t_out : Nat) (a_t_at : Nat) (a_t_in : Nat) (a_t_back : Nat) (a_t_register : Nat) (a_t_output : Nat) (a_t_calls : Nat) (a_t_latest : Nat) (a_t_differ : Nat) (t_code : Int32) (t_own : Int32) (t_count : Int32) (t_tableSize : Int32) (t_given : Int32) (t_known : Int32) (t_news : Int32) (t_depth : Int32) (t_steps : Int32) (t_taken : Int32) (t_shown : Int32) (t_outcome : Int32) (t_parameters : Nat → Int32) (t_length : Nat → Int32) (t_now : Nat → Int32) (t_met : Nat → Int32) (t_any : Nat → Int32) (t_number : Nat → Int32) : va_W := [(a_t, .inr (8, [.int t_code, .int t_own, .int t_count, .ref a_t_parameters, .ref a_t_length, .ref a_t_newLength, .ref a_t_first, .ref a_t_now, .ref a_t_anew, .int t_tableSize, .ref a_t_table, .int t_given, .ref a_t_inputs, .int t_known, .ref a_t_met, .ref a_t_any, .ref a_t_number, .int t_news, .ref a_t_outAny, .ref a_t_out, .int t_depth, .int t_steps, .int t_taken, .int t_shown, .ref a_t_at, .ref a_t_in, .ref a_t_back, .ref a_t_register, .ref a_t_output, .ref a_t_calls, .ref a_t_latest, .ref a_t_differ, .int t_outcome])), (a_t_parameters, .inl (cI, 12, .inl t_parameters)), (a_t_length, .inl (cI, 12, .inl t_length)), (a_t_now, .inl (cI, 1152, .inl t_now)), (a_t_met, .inl (cZ, 204, .inl t_met)), (a_t_any, .inl (cZ, 1224, .inl t_any)), (a_t_number, .inl (cI, 1224, .inl t_number))]
abbrev r_X8_specialises : Room := { frames := 3, cells := 0, slots := 0, locals := 69 }
def f_X8_specialises_123 (N : Nat) (t_met : Nat → Int32) (t_any : Nat → Int32) (t_number : Nat → Int32) : Nat → Int32 → Int32 → Int32 → (Nat → Int32) → (Nat → Int32) → (Nat → Int32) → Option (Int32 × Int32 × (Nat → Int32) × (Nat → Int32) × (Nat → Int32))
  | 0, _, _, _, _, _, _ => none
  | n + 1, x1, x3, t_count, t_parameters, t_length, t_now => if (16 * t_count) ≤ x3 then (g_wr 1152 t_now ((6 * x1) + 2) t_count).bind (fun s2 => some (1, t_count + 1, t_parameters, t_length, s2)) else if x3 = x1 then f_X8_specialises_123 N t_met t_any t_number n x1 (x3 + 1) t_count t_parameters t_length t_now else (f_X8_agree N x1 x3 t_parameters t_length t_now t_met t_any t_number).bind (fun o4 => if o4 = 0 then f_X8_specialises_123 N t_met t_any t_number n x1 (x3 + 1) t_count t_parameters t_length t_now else (g_wr 1152 t_now ((6 * x3) + 2) t_count).bind (fun s6 => f_X8_specialises_123 N t_met t_any t_number n x1 (x3 + 1) t_count t_parameters t_length s6))
set_option maxHeartbeats 4000000 in
set_option maxRecDepth 100000 in
theorem b_X8_specialises_123 {p : Program} {l : Launch} {e : Env} {s : State} {m : MethodId} {args : Array Value} {below : List Frame} {meth : Method} {c : Code} {tA : Nat} {dC : Nat → ClassId} {dI : Nat → Nat → Nat} {cI cZ cJ : ClassId} {A : Nat → Prop} {a_t : Nat} {a_t_parameters : Nat} {a_t_length : Nat} {a_t_now : Nat} {a_t_met : Nat} {a_t_any : Nat} {a_t_number : Nat} {a_t_newLength : Nat} {a_t_first : Nat} {a_t_anew : Nat} {a_t_table : Nat} {a_t_inputs : Nat} {a_t_outAny : Nat} {a_t_out : Nat} {a_t_at : Nat} {a_t_in : Nat} {a_t_back : Nat} {a_t_register : Nat} {a_t_output : Nat} {a_t_calls : Nat} {a_t_latest : Nat} {a_t_differ : Nat} {t_met : Nat → Int32} {t_any : Nat → Int32} {t_number : Nat → Int32} {t_code : Int32} {t_own : Int32} {t_tableSize : Int32} {t_given : Int32} {t_known : Int32} {t_news : Int32} {t_depth : Int32} {t_steps : Int32} {t_taken : Int32} {t_shown : Int32} {t_outcome : Int32} {N : Nat} (hC : g_C p s m meth c args cX8_specialises 4 (some .boolean) RX8) :
    ∀ (n : Nat) (x1 : Int32) (x3 : Int32) (t_count : Int32) (t_parameters : Nat → Int32) (t_length : Nat → Int32) (t_now : Nat → Int32) (out : Int32 × Int32 × (Nat → Int32) × (Nat → Int32) × (Nat → Int32)), f_X8_specialises_123 N t_met t_any t_number n x1 x3 t_count t_parameters t_length t_now = some out → ∀ (H : Heap) (locs : List Loc) (ls : Array Slot), g_W tA dC dI cI cZ cJ A s H locs (w_X8_specialises cI cZ cJ a_t a_t_parameters a_t_length a_t_now a_t_met a_t_any a_t_number a_t_newLength a_t_first a_t_anew a_t_table a_t_inputs a_t_outAny a_t_out a_t_at a_t_in a_t_back a_t_register a_t_output a_t_calls a_t_latest a_t_differ t_code t_own t_count t_tableSize t_given t_known t_news t_depth t_steps t_taken t_shown t_outcome t_parameters t_length t_now t_met t_any t_number) → lv_has ls 4 [(0, .ref a_t), (1, .int x1), (3, .int x3)] → W p l e r_X8_specialises s m args below meth c H locs 0 0 (MQ below (g_Qi dC dI cI cZ cJ A (w_X8_specialises cI cZ cJ a_t a_t_parameters a_t_length a_t_now a_t_met a_t_any a_t_number a_t_newLength a_t_first a_t_anew a_t_table a_t_inputs a_t_outAny a_t_out a_t_at a_t_in a_t_back a_t_register a_t_output a_t_calls a_t_latest a_t_differ t_code t_own out.2.1 t_tableSize t_given t_known t_news t_depth t_steps t_taken t_shown t_outcome out.2.2.1 out.2.2.2.1 out.2.2.2.2 t_met t_any t_number) out.1) args s 0 0 A) (F0 m 123 ls []) := by
  have hx := hC.1
  have hb := hC.2.1
  have hown := hC.2.2.2.2.1
  have hts := hC.2.2.2.2.2.1
  intro n
  induction n with
  | zero =>
    intro x1 x3 t_count t_parameters t_length t_now out hf
    exact g_no hf
  | succ n ih =>
    intro x1 x3 t_count t_parameters t_length t_now out hf H locs ls hW hl
    refine lv_iload_n hx hb dX8_specialises_123 rfl (lv_at hl 2 rfl) ?_
    refine lv_bipush (v := 16) hx hb dX8_specialises_124 (by decide) ?_
    refine lv_aload_n hx hb dX8_specialises_126 rfl (lv_at hl 0 rfl) ?_
    refine gs_get hC hW in_X8 0 2 rfl rfl (by decide) fl_X8_85 rfl dX8_specialises_127 ?_
    refine lv_imul hx hb dX8_specialises_130 ?_
    refine lv_icmp_ge (tgt := 169) hx hb dX8_specialises_131 (by decide) (fun c1 => ?_) (fun c1 => ?_)
    · replace hf := (if_pos c1).symm.trans hf
      refine lv_aload_n hx hb dX8_specialises_169 rfl (lv_at hl 0 rfl) ?_
      refine gs_get hC hW in_X8 0 7 rfl rfl (by decide) fl_X8_22 rfl dX8_specialises_170 ?_
      refine lv_bipush (v := 6) hx hb dX8_specialises_173 (by decide) ?_
      refine lv_iload_n hx hb dX8_specialises_175 rfl (lv_at hl 1 rfl) ?_
      refine lv_imul hx hb dX8_specialises_176 ?_
      refine lv_iconst (v := 2) hx hb dX8_specialises_177 (by decide) ?_
      refine lv_iadd hx hb dX8_specialises_178 ?_
      refine lv_aload_n hx hb dX8_specialises_179 rfl (lv_at hl 0 rfl) ?_
      refine gs_get hC hW in_X8 0 2 rfl rfl (by decide) fl_X8_85 rfl dX8_specialises_180 ?_
      obtain ⟨s2, h2, hf⟩ := g_bnd hf
      refine gs_iast (ws' := w_X8_specialises cI cZ cJ a_t a_t_parameters a_t_length a_t_now a_t_met a_t_any a_t_number a_t_newLength a_t_first a_t_anew a_t_table a_t_inputs a_t_outAny a_t_out a_t_at a_t_in a_t_back a_t_register a_t_output a_t_calls a_t_latest a_t_differ t_code t_own t_count t_tableSize t_given t_known t_news t_depth t_steps t_taken t_shown t_outcome t_parameters t_length s2 t_met t_any t_number) hC hW 3 h2 rfl rfl dX8_specialises_183 (fun H locs hW => ?_)
      refine lv_aload_n hx hb dX8_specialises_184 rfl (lv_at hl 0 rfl) ?_
      refine lv_dup hx hb dX8_specialises_185 rfl ?_
      refine gs_get hC hW in_X8 0 2 rfl rfl (by decide) fl_X8_85 rfl dX8_specialises_186 ?_
      refine lv_iconst (v := 1) hx hb dX8_specialises_189 (by decide) ?_
      refine lv_iadd hx hb dX8_specialises_190 ?_
      refine gs_put (ws' := w_X8_specialises cI cZ cJ a_t a_t_parameters a_t_length a_t_now a_t_met a_t_any a_t_number a_t_newLength a_t_first a_t_anew a_t_table a_t_inputs a_t_outAny a_t_out a_t_at a_t_in a_t_back a_t_register a_t_output a_t_calls a_t_latest a_t_differ t_code t_own (t_count + 1) t_tableSize t_given t_known t_news t_depth t_steps t_taken t_shown t_outcome t_parameters t_length s2 t_met t_any t_number) hC hW in_X8 tyX8_ok nmX8 0 2 rfl rfl (by decide) fl_X8_85 rfl rfl rfl (Nat.le_of_ble_eq_true rfl) rfl dX8_specialises_191 (fun H locs hW => ?_)
      refine lv_iconst (v := 1) hx hb dX8_specialises_194 (by decide) ?_
      obtain rfl := Option.some.inj hf
      exact gs_rz hC hW rfl g_n1 dX8_specialises_195
    · replace hf := (if_neg c1).symm.trans hf
      refine lv_iload_n hx hb dX8_specialises_134 rfl (lv_at hl 2 rfl) ?_
      refine lv_iload_n hx hb dX8_specialises_135 rfl (lv_at hl 1 rfl) ?_
      refine lv_icmp_eq (tgt := 163) hx hb dX8_specialises_136 (by decide) (fun c3 => ?_) (fun c3 => ?_)
      · replace hf := (if_pos c3).symm.trans hf
        refine lv_iinc (v := x3 + 1) (lv' := [(3, .int (x3 + 1)), (0, .ref a_t), (1, .int x1)]) hx hb dX8_specialises_163 hl (k := 2) rfl rfl (by decide) rfl (fun ls hl => ?_)
        refine lv_goto (tgt := 123) hx hb dX8_specialises_166 (by decide) ?_
        exact ih _ _ _ _ _ _ _ hf _ _ _ hW (lv_sub hl [1, 2, 0] rfl)
      · replace hf := (if_neg c3).symm.trans hf
        refine lv_aload_n hx hb dX8_specialises_139 rfl (lv_at hl 0 rfl) ?_
        refine lv_iload_n hx hb dX8_specialises_140 rfl (lv_at hl 1 rfl) ?_
        refine lv_iload_n hx hb dX8_specialises_141 rfl (lv_at hl 2 rfl) ?_
        obtain ⟨o4, h4, hf⟩ := g_bnd hf
        refine gs_callVi (ws' := w_X8_specialises cI cZ cJ a_t a_t_parameters a_t_length a_t_now a_t_met a_t_any a_t_number a_t_newLength a_t_first a_t_anew a_t_table a_t_inputs a_t_outAny a_t_out a_t_at a_t_in a_t_back a_t_register a_t_output a_t_calls a_t_latest a_t_differ t_code t_own t_count t_tableSize t_given t_known t_news t_depth t_steps t_taken t_shown t_outcome t_parameters t_length t_now t_met t_any t_number) hC hW (k_X8_agree l tA dC dI cI cZ cJ a_t a_t_parameters a_t_length a_t_now a_t_met a_t_any a_t_number a_t_newLength a_t_first a_t_anew a_t_table a_t_inputs a_t_outAny a_t_out a_t_at a_t_in a_t_back a_t_register a_t_output a_t_calls a_t_latest a_t_differ N x1 x3 t_code t_own t_count t_tableSize t_given t_known t_news t_depth t_steps t_taken t_shown t_outcome t_parameters t_length t_now t_met t_any t_number _ h4) yk_X8_agree lk_X8_161 iv_X8_agree ⟨rfl, rfl⟩ ⟨Nat.le_of_ble_eq_true rfl, Nat.le_of_ble_eq_true rfl⟩ hl.1 0 rfl rfl [0, 1, 2, 3, 4, 5, 6] [] [0, 1, 2, 3, 4, 5, 6] rfl rfl rfl rfl (by decide) rfl rfl rfl rfl (Nat.le_of_ble_eq_true rfl) dX8_specialises_142 ⟨Nat.zero_le _, Nat.zero_le _⟩ (fun H locs hW => ?_)
        refine lv_if_eq (tgt := 163) hx hb dX8_specialises_145 (by decide) (fun c5 => ?_) (fun c5 => ?_)
        · replace hf := (if_pos c5).symm.trans hf
          refine lv_iinc (v := x3 + 1) (lv' := [(3, .int (x3 + 1)), (0, .ref a_t), (1, .int x1)]) hx hb dX8_specialises_163 hl (k := 2) rfl rfl (by decide) rfl (fun ls hl => ?_)
          refine lv_goto (tgt := 123) hx hb dX8_specialises_166 (by decide) ?_
          exact ih _ _ _ _ _ _ _ hf _ _ _ hW (lv_sub hl [1, 2, 0] rfl)
        · replace hf := (if_neg c5).symm.trans hf
          refine lv_aload_n hx hb dX8_specialises_148 rfl (lv_at hl 0 rfl) ?_
          refine gs_get hC hW in_X8 0 7 rfl rfl (by decide) fl_X8_22 rfl dX8_specialises_149 ?_
          refine lv_bipush (v := 6) hx hb dX8_specialises_152 (by decide) ?_
          refine lv_iload_n hx hb dX8_specialises_154 rfl (lv_at hl 2 rfl) ?_
          refine lv_imul hx hb dX8_specialises_155 ?_
          refine lv_iconst (v := 2) hx hb dX8_specialises_156 (by decide) ?_
          refine lv_iadd hx hb dX8_specialises_157 ?_
          refine lv_aload_n hx hb dX8_specialises_158 rfl (lv_at hl 0 rfl) ?_
          refine gs_get hC hW in_X8 0 2 rfl rfl (by decide) fl_X8_85 rfl dX8_specialises_159 ?_
          obtain ⟨s6, h6, hf⟩ := g_bnd hf
          refine gs_iast (ws' := w_X8_specialises cI cZ cJ a_t a_t_parameters a_t_length a_t_now a_t_met a_t_any a_t_number a_t_newLength a_t_first a_t_anew a_t_table a_t_inputs a_t_outAny a_t_out a_t_at a_t_in a_t_back a_t_register a_t_output a_t_calls a_t_latest a_t_differ t_code t_own t_count t_tableSize t_given t_known t_news t_depth t_steps t_taken t_shown t_outcome t_parameters t_length s6 t_met t_any t_number) hC hW 3 h6 rfl rfl dX8_specialises_162 (fun H locs hW => ?_)
          refine lv_iinc (v := x3 + 1) (lv' := [(3, .int (x3 + 1)), (0, .ref a_t), (1, .int x1)]) hx hb dX8_specialises_163 hl (k := 2) rfl rfl (by decide) rfl (fun ls hl => ?_)
          refine lv_goto (tgt := 123) hx hb dX8_specialises_166 (by decide) ?_
          exact ih _ _ _ _ _ _ _ hf _ _ _ hW (lv_sub hl [1, 2, 0] rfl)
def f_X8_specialises_84 (N : Nat) (t_met : Nat → Int32) (t_any : Nat → Int32) (t_number : Nat → Int32) : Nat → Int32 → Int32 → Int32 → Int32 → (Nat → Int32) → (Nat → Int32) → (Nat → Int32) → Option (Int32 × Int32 × (Nat → Int32) × (Nat → Int32) × (Nat → Int32))
  | 0, _, _, _, _, _, _, _ => none
  | n + 1, x1, x2, x3, t_count, t_parameters, t_length, t_now => if 96 ≤ x3 then f_X8_specialises_123 N t_met t_any t_number N x1 0 t_count t_parameters t_length t_now else (g_rd 1152 t_now ((96 * x2) + x3)).bind (fun v8 => (g_wr 1152 t_now ((96 * t_count) + x3) v8).bind (fun s9 => f_X8_specialises_84 N t_met t_any t_number n x1 x2 (x3 + 1) t_count t_parameters t_length s9))
set_option maxHeartbeats 4000000 in
set_option maxRecDepth 100000 in
theorem b_X8_specialises_84 {p : Program} {l : Launch} {e : Env} {s : State} {m : MethodId} {args : Array Value} {below : List Frame} {meth : Method} {c : Code} {tA : Nat} {dC : Nat → ClassId} {dI : Nat → Nat → Nat} {cI cZ cJ : ClassId} {A : Nat → Prop} {a_t : Nat} {a_t_parameters : Nat} {a_t_length : Nat} {a_t_now : Nat} {a_t_met : Nat} {a_t_any : Nat} {a_t_number : Nat} {a_t_newLength : Nat} {a_t_first : Nat} {a_t_anew : Nat} {a_t_table : Nat} {a_t_inputs : Nat} {a_t_outAny : Nat} {a_t_out : Nat} {a_t_at : Nat} {a_t_in : Nat} {a_t_back : Nat} {a_t_register : Nat} {a_t_output : Nat} {a_t_calls : Nat} {a_t_latest : Nat} {a_t_differ : Nat} {t_met : Nat → Int32} {t_any : Nat → Int32} {t_number : Nat → Int32} {t_code : Int32} {t_own : Int32} {t_tableSize : Int32} {t_given : Int32} {t_known : Int32} {t_news : Int32} {t_depth : Int32} {t_steps : Int32} {t_taken : Int32} {t_shown : Int32} {t_outcome : Int32} {N : Nat} (hC : g_C p s m meth c args cX8_specialises 4 (some .boolean) RX8) :
    ∀ (n : Nat) (x1 : Int32) (x2 : Int32) (x3 : Int32) (t_count : Int32) (t_parameters : Nat → Int32) (t_length : Nat → Int32) (t_now : Nat → Int32) (out : Int32 × Int32 × (Nat → Int32) × (Nat → Int32) × (Nat → Int32)), f_X8_specialises_84 N t_met t_any t_number n x1 x2 x3 t_count t_parameters t_length t_now = some out → ∀ (H : Heap) (locs : List Loc) (ls : Array Slot), g_W tA dC dI cI cZ cJ A s H locs (w_X8_specialises cI cZ cJ a_t a_t_parameters a_t_length a_t_now a_t_met a_t_any a_t_number a_t_newLength a_t_first a_t_anew a_t_table a_t_inputs a_t_outAny a_t_out a_t_at a_t_in a_t_back a_t_register a_t_output a_t_calls a_t_latest a_t_differ t_code t_own t_count t_tableSize t_given t_known t_news t_depth t_steps t_taken t_shown t_outcome t_parameters t_length t_now t_met t_any t_number) → lv_has ls 4 [(0, .ref a_t), (1, .int x1), (2, .int x2), (3, .int x3)] → W p l e r_X8_specialises s m args below meth c H locs 0 0 (MQ below (g_Qi dC dI cI cZ cJ A (w_X8_specialises cI cZ cJ a_t a_t_parameters a_t_length a_t_now a_t_met a_t_any a_t_number a_t_newLength a_t_first a_t_anew a_t_table a_t_inputs a_t_outAny a_t_out a_t_at a_t_in a_t_back a_t_register a_t_output a_t_calls a_t_latest a_t_differ t_code t_own out.2.1 t_tableSize t_given t_known t_news t_depth t_steps t_taken t_shown t_outcome out.2.2.1 out.2.2.2.1 out.2.2.2.2 t_met t_any t_number) out.1) args s 0 0 A) (F0 m 84 ls []) := by
  have hx := hC.1
  have hb := hC.2.1
  have hown := hC.2.2.2.2.1
  have hts := hC.2.2.2.2.2.1
  intro n
  induction n with
  | zero =>
    intro x1 x2 x3 t_count t_parameters t_length t_now out hf
    exact g_no hf
  | succ n ih =>
    intro x1 x2 x3 t_count t_parameters t_length t_now out hf H locs ls hW hl
    refine lv_iload_n hx hb dX8_specialises_84 rfl (lv_at hl 3 rfl) ?_
    refine lv_bipush (v := 96) hx hb dX8_specialises_85 (by decide) ?_
    refine lv_icmp_ge (tgt := 121) hx hb dX8_specialises_87 (by decide) (fun c7 => ?_) (fun c7 => ?_)
    · replace hf := (if_pos c7).symm.trans hf
      refine lv_iconst (v := 0) hx hb dX8_specialises_121 (by decide) ?_
      refine lv_istore_n (lv' := [(3, .int 0), (0, .ref a_t), (1, .int x1), (2, .int x2)]) hx hb dX8_specialises_122 rfl hl (by decide) rfl (fun ls hl => ?_)
      exact b_X8_specialises_123 hC N _ _ _ _ _ _ _ hf _ _ _ hW (lv_sub hl [1, 2, 0] rfl)
    · replace hf := (if_neg c7).symm.trans hf
      refine lv_aload_n hx hb dX8_specialises_90 rfl (lv_at hl 0 rfl) ?_
      refine gs_get hC hW in_X8 0 7 rfl rfl (by decide) fl_X8_22 rfl dX8_specialises_91 ?_
      refine lv_bipush (v := 96) hx hb dX8_specialises_94 (by decide) ?_
      refine lv_aload_n hx hb dX8_specialises_96 rfl (lv_at hl 0 rfl) ?_
      refine gs_get hC hW in_X8 0 2 rfl rfl (by decide) fl_X8_85 rfl dX8_specialises_97 ?_
      refine lv_imul hx hb dX8_specialises_100 ?_
      refine lv_iload_n hx hb dX8_specialises_101 rfl (lv_at hl 3 rfl) ?_
      refine lv_iadd hx hb dX8_specialises_102 ?_
      refine lv_aload_n hx hb dX8_specialises_103 rfl (lv_at hl 0 rfl) ?_
      refine gs_get hC hW in_X8 0 7 rfl rfl (by decide) fl_X8_22 rfl dX8_specialises_104 ?_
      refine lv_bipush (v := 96) hx hb dX8_specialises_107 (by decide) ?_
      refine lv_iload_n hx hb dX8_specialises_109 rfl (lv_at hl 2 rfl) ?_
      refine lv_imul hx hb dX8_specialises_110 ?_
      refine lv_iload_n hx hb dX8_specialises_111 rfl (lv_at hl 3 rfl) ?_
      refine lv_iadd hx hb dX8_specialises_112 ?_
      obtain ⟨v8, h8, hf⟩ := g_bnd hf
      refine gs_iald hC hW 3 h8 rfl dX8_specialises_113 ?_
      obtain ⟨s9, h9, hf⟩ := g_bnd hf
      refine gs_iast (ws' := w_X8_specialises cI cZ cJ a_t a_t_parameters a_t_length a_t_now a_t_met a_t_any a_t_number a_t_newLength a_t_first a_t_anew a_t_table a_t_inputs a_t_outAny a_t_out a_t_at a_t_in a_t_back a_t_register a_t_output a_t_calls a_t_latest a_t_differ t_code t_own t_count t_tableSize t_given t_known t_news t_depth t_steps t_taken t_shown t_outcome t_parameters t_length s9 t_met t_any t_number) hC hW 3 h9 rfl rfl dX8_specialises_114 (fun H locs hW => ?_)
      refine lv_iinc (v := x3 + 1) (lv' := [(3, .int (x3 + 1)), (0, .ref a_t), (1, .int x1), (2, .int x2)]) hx hb dX8_specialises_115 hl (k := 3) rfl rfl (by decide) rfl (fun ls hl => ?_)
      refine lv_goto (tgt := 84) hx hb dX8_specialises_118 (by decide) ?_
      exact ih _ _ _ _ _ _ _ _ hf _ _ _ hW (lv_sub hl [1, 2, 3, 0] rfl)
def f_X8_specialises_27 (N : Nat) (t_met : Nat → Int32) (t_any : Nat → Int32) (t_number : Nat → Int32) (x1 : Int32) (t_count : Int32) (t_parameters : Nat → Int32) (t_length : Nat → Int32) (t_now : Nat → Int32) : Option (Int32 × Int32 × (Nat → Int32) × (Nat → Int32) × (Nat → Int32)) := if x1 = (16 * t_count) then some (0, t_count, t_parameters, t_length, t_now) else (g_rd 1152 t_now ((6 * x1) + 2)).bind (fun v11 => (g_rd 12 t_parameters v11).bind (fun v12 => (g_wr 12 t_parameters t_count v12).bind (fun s13 => (g_rd 12 t_length v11).bind (fun v14 => (g_wr 12 t_length t_count v14).bind (fun s15 => f_X8_specialises_84 N t_met t_any t_number N x1 v11 0 t_count s13 s15 t_now)))))
set_option maxHeartbeats 4000000 in
set_option maxRecDepth 100000 in
theorem b_X8_specialises_27 {p : Program} {l : Launch} {e : Env} {s : State} {m : MethodId} {args : Array Value} {below : List Frame} {meth : Method} {c : Code} {tA : Nat} {dC : Nat → ClassId} {dI : Nat → Nat → Nat} {cI cZ cJ : ClassId} {A : Nat → Prop} {a_t : Nat} {a_t_parameters : Nat} {a_t_length : Nat} {a_t_now : Nat} {a_t_met : Nat} {a_t_any : Nat} {a_t_number : Nat} {a_t_newLength : Nat} {a_t_first : Nat} {a_t_anew : Nat} {a_t_table : Nat} {a_t_inputs : Nat} {a_t_outAny : Nat} {a_t_out : Nat} {a_t_at : Nat} {a_t_in : Nat} {a_t_back : Nat} {a_t_register : Nat} {a_t_output : Nat} {a_t_calls : Nat} {a_t_latest : Nat} {a_t_differ : Nat} {t_met : Nat → Int32} {t_any : Nat → Int32} {t_number : Nat → Int32} {t_code : Int32} {t_own : Int32} {t_tableSize : Int32} {t_given : Int32} {t_known : Int32} {t_news : Int32} {t_depth : Int32} {t_steps : Int32} {t_taken : Int32} {t_shown : Int32} {t_outcome : Int32} {N : Nat} {x1 : Int32} {t_count : Int32} {t_parameters : Nat → Int32} {t_length : Nat → Int32} {t_now : Nat → Int32} {out : Int32 × Int32 × (Nat → Int32) × (Nat → Int32) × (Nat → Int32)} (hC : g_C p s m meth c args cX8_specialises 4 (some .boolean) RX8) (hf : f_X8_specialises_27 N t_met t_any t_number x1 t_count t_parameters t_length t_now = some out) {H : Heap} {locs : List Loc} {ls : Array Slot} (hW : g_W tA dC dI cI cZ cJ A s H locs (w_X8_specialises cI cZ cJ a_t a_t_parameters a_t_length a_t_now a_t_met a_t_any a_t_number a_t_newLength a_t_first a_t_anew a_t_table a_t_inputs a_t_outAny a_t_out a_t_at a_t_in a_t_back a_t_register a_t_output a_t_calls a_t_latest a_t_differ t_code t_own t_count t_tableSize t_given t_known t_news t_depth t_steps t_taken t_shown t_outcome t_parameters t_length t_now t_met t_any t_number)) (hl : lv_has ls 4 [(0, .ref a_t), (1, .int x1)]) : W p l e r_X8_specialises s m args below meth c H locs 0 0 (MQ below (g_Qi dC dI cI cZ cJ A (w_X8_specialises cI cZ cJ a_t a_t_parameters a_t_length a_t_now a_t_met a_t_any a_t_number a_t_newLength a_t_first a_t_anew a_t_table a_t_inputs a_t_outAny a_t_out a_t_at a_t_in a_t_back a_t_register a_t_output a_t_calls a_t_latest a_t_differ t_code t_own out.2.1 t_tableSize t_given t_known t_news t_depth t_steps t_taken t_shown t_outcome out.2.2.1 out.2.2.2.1 out.2.2.2.2 t_met t_any t_number) out.1) args s 0 0 A) (F0 m 27 ls []) := by
  have hx := hC.1
  have hb := hC.2.1
  have hown := hC.2.2.2.2.1
  have hts := hC.2.2.2.2.2.1
  unfold f_X8_specialises_27 at hf
  refine lv_iload_n hx hb dX8_specialises_27 rfl (lv_at hl 1 rfl) ?_
  refine lv_bipush (v := 16) hx hb dX8_specialises_28 (by decide) ?_
  refine lv_aload_n hx hb dX8_specialises_30 rfl (lv_at hl 0 rfl) ?_
  refine gs_get hC hW in_X8 0 2 rfl rfl (by decide) fl_X8_85 rfl dX8_specialises_31 ?_
  refine lv_imul hx hb dX8_specialises_34 ?_
  refine lv_icmp_ne (tgt := 40) hx hb dX8_specialises_35 (by decide) (fun c10 => ?_) (fun c10 => ?_)
  · replace hf := (if_neg c10).symm.trans hf
    refine lv_aload_n hx hb dX8_specialises_40 rfl (lv_at hl 0 rfl) ?_
    refine gs_get hC hW in_X8 0 7 rfl rfl (by decide) fl_X8_22 rfl dX8_specialises_41 ?_
    refine lv_bipush (v := 6) hx hb dX8_specialises_44 (by decide) ?_
    refine lv_iload_n hx hb dX8_specialises_46 rfl (lv_at hl 1 rfl) ?_
    refine lv_imul hx hb dX8_specialises_47 ?_
    refine lv_iconst (v := 2) hx hb dX8_specialises_48 (by decide) ?_
    refine lv_iadd hx hb dX8_specialises_49 ?_
    obtain ⟨v11, h11, hf⟩ := g_bnd hf
    refine gs_iald hC hW 3 h11 rfl dX8_specialises_50 ?_
    refine lv_istore_n (lv' := [(2, .int v11), (0, .ref a_t), (1, .int x1)]) hx hb dX8_specialises_51 rfl hl (by decide) rfl (fun ls hl => ?_)
    refine lv_aload_n hx hb dX8_specialises_52 rfl (lv_at hl 1 rfl) ?_
    refine gs_get hC hW in_X8 0 3 rfl rfl (by decide) fl_X8_7 rfl dX8_specialises_53 ?_
    refine lv_aload_n hx hb dX8_specialises_56 rfl (lv_at hl 1 rfl) ?_
    refine gs_get hC hW in_X8 0 2 rfl rfl (by decide) fl_X8_85 rfl dX8_specialises_57 ?_
    refine lv_aload_n hx hb dX8_specialises_60 rfl (lv_at hl 1 rfl) ?_
    refine gs_get hC hW in_X8 0 3 rfl rfl (by decide) fl_X8_7 rfl dX8_specialises_61 ?_
    refine lv_iload_n hx hb dX8_specialises_64 rfl (lv_at hl 0 rfl) ?_
    obtain ⟨v12, h12, hf⟩ := g_bnd hf
    refine gs_iald hC hW 1 h12 rfl dX8_specialises_65 ?_
    obtain ⟨s13, h13, hf⟩ := g_bnd hf
    refine gs_iast (ws' := w_X8_specialises cI cZ cJ a_t a_t_parameters a_t_length a_t_now a_t_met a_t_any a_t_number a_t_newLength a_t_first a_t_anew a_t_table a_t_inputs a_t_outAny a_t_out a_t_at a_t_in a_t_back a_t_register a_t_output a_t_calls a_t_latest a_t_differ t_code t_own t_count t_tableSize t_given t_known t_news t_depth t_steps t_taken t_shown t_outcome s13 t_length t_now t_met t_any t_number) hC hW 1 h13 rfl rfl dX8_specialises_66 (fun H locs hW => ?_)
    refine lv_aload_n hx hb dX8_specialises_67 rfl (lv_at hl 1 rfl) ?_
    refine gs_get hC hW in_X8 0 4 rfl rfl (by decide) fl_X8_13 rfl dX8_specialises_68 ?_
    refine lv_aload_n hx hb dX8_specialises_71 rfl (lv_at hl 1 rfl) ?_
    refine gs_get hC hW in_X8 0 2 rfl rfl (by decide) fl_X8_85 rfl dX8_specialises_72 ?_
    refine lv_aload_n hx hb dX8_specialises_75 rfl (lv_at hl 1 rfl) ?_
    refine gs_get hC hW in_X8 0 4 rfl rfl (by decide) fl_X8_13 rfl dX8_specialises_76 ?_
    refine lv_iload_n hx hb dX8_specialises_79 rfl (lv_at hl 0 rfl) ?_
    obtain ⟨v14, h14, hf⟩ := g_bnd hf
    refine gs_iald hC hW 2 h14 rfl dX8_specialises_80 ?_
    obtain ⟨s15, h15, hf⟩ := g_bnd hf
    refine gs_iast (ws' := w_X8_specialises cI cZ cJ a_t a_t_parameters a_t_length a_t_now a_t_met a_t_any a_t_number a_t_newLength a_t_first a_t_anew a_t_table a_t_inputs a_t_outAny a_t_out a_t_at a_t_in a_t_back a_t_register a_t_output a_t_calls a_t_latest a_t_differ t_code t_own t_count t_tableSize t_given t_known t_news t_depth t_steps t_taken t_shown t_outcome s13 s15 t_now t_met t_any t_number) hC hW 2 h15 rfl rfl dX8_specialises_81 (fun H locs hW => ?_)
    refine lv_iconst (v := 0) hx hb dX8_specialises_82 (by decide) ?_
    refine lv_istore_n (lv' := [(3, .int 0), (2, .int v11), (0, .ref a_t), (1, .int x1)]) hx hb dX8_specialises_83 rfl hl (by decide) rfl (fun ls hl => ?_)
    exact b_X8_specialises_84 hC N _ _ _ _ _ _ _ _ hf _ _ _ hW (lv_sub hl [2, 3, 1, 0] rfl)
  · replace hf := (if_pos c10).symm.trans hf
    refine lv_iconst (v := 0) hx hb dX8_specialises_38 (by decide) ?_
    obtain rfl := Option.some.inj hf
    exact gs_rz hC hW rfl g_n0 dX8_specialises_39
def f_X8_specialises_2 (N : Nat) (t_met : Nat → Int32) (t_any : Nat → Int32) (t_number : Nat → Int32) : Nat → Int32 → Int32 → (Nat → Int32) → (Nat → Int32) → (Nat → Int32) → Option (Int32 × Int32 × (Nat → Int32) × (Nat → Int32) × (Nat → Int32))
  | 0, _, _, _, _, _ => none
  | n + 1, x1, t_count, t_parameters, t_length, t_now => if (16 * t_count) ≤ x1 then f_X8_specialises_27 N t_met t_any t_number x1 t_count t_parameters t_length t_now else (f_X8_isSpecial N x1 t_parameters t_length t_now t_met t_any).bind (fun o17 => if o17 = 0 then f_X8_specialises_2 N t_met t_any t_number n (x1 + 1) t_count t_parameters t_length t_now else f_X8_specialises_27 N t_met t_any t_number x1 t_count t_parameters t_length t_now)
set_option maxHeartbeats 4000000 in
set_option maxRecDepth 100000 in
theorem b_X8_specialises_2 {p : Program} {l : Launch} {e : Env} {s : State} {m : MethodId} {args : Array Value} {below : List Frame} {meth : Method} {c : Code} {tA : Nat} {dC : Nat → ClassId} {dI : Nat → Nat → Nat} {cI cZ cJ : ClassId} {A : Nat → Prop} {a_t : Nat} {a_t_parameters : Nat} {a_t_length : Nat} {a_t_now : Nat} {a_t_met : Nat} {a_t_any : Nat} {a_t_number : Nat} {a_t_newLength : Nat} {a_t_first : Nat} {a_t_anew : Nat} {a_t_table : Nat} {a_t_inputs : Nat} {a_t_outAny : Nat} {a_t_out : Nat} {a_t_at : Nat} {a_t_in : Nat} {a_t_back : Nat} {a_t_register : Nat} {a_t_output : Nat} {a_t_calls : Nat} {a_t_latest : Nat} {a_t_differ : Nat} {t_met : Nat → Int32} {t_any : Nat → Int32} {t_number : Nat → Int32} {t_code : Int32} {t_own : Int32} {t_tableSize : Int32} {t_given : Int32} {t_known : Int32} {t_news : Int32} {t_depth : Int32} {t_steps : Int32} {t_taken : Int32} {t_shown : Int32} {t_outcome : Int32} {N : Nat} (hC : g_C p s m meth c args cX8_specialises 4 (some .boolean) RX8) :
    ∀ (n : Nat) (x1 : Int32) (t_count : Int32) (t_parameters : Nat → Int32) (t_length : Nat → Int32) (t_now : Nat → Int32) (out : Int32 × Int32 × (Nat → Int32) × (Nat → Int32) × (Nat → Int32)), f_X8_specialises_2 N t_met t_any t_number n x1 t_count t_parameters t_length t_now = some out → ∀ (H : Heap) (locs : List Loc) (ls : Array Slot), g_W tA dC dI cI cZ cJ A s H locs (w_X8_specialises cI cZ cJ a_t a_t_parameters a_t_length a_t_now a_t_met a_t_any a_t_number a_t_newLength a_t_first a_t_anew a_t_table a_t_inputs a_t_outAny a_t_out a_t_at a_t_in a_t_back a_t_register a_t_output a_t_calls a_t_latest a_t_differ t_code t_own t_count t_tableSize t_given t_known t_news t_depth t_steps t_taken t_shown t_outcome t_parameters t_length t_now t_met t_any t_number) → lv_has ls 4 [(0, .ref a_t), (1, .int x1)] → W p l e r_X8_specialises s m args below meth c H locs 0 0 (MQ below (g_Qi dC dI cI cZ cJ A (w_X8_specialises cI cZ cJ a_t a_t_parameters a_t_length a_t_now a_t_met a_t_any a_t_number a_t_newLength a_t_first a_t_anew a_t_table a_t_inputs a_t_outAny a_t_out a_t_at a_t_in a_t_back a_t_register a_t_output a_t_calls a_t_latest a_t_differ t_code t_own out.2.1 t_tableSize t_given t_known t_news t_depth t_steps t_taken t_shown t_outcome out.2.2.1 out.2.2.2.1 out.2.2.2.2 t_met t_any t_number) out.1) args s 0 0 A) (F0 m 2 ls []) := by
  have hx := hC.1
  have hb := hC.2.1
  have hown := hC.2.2.2.2.1
  have hts := hC.2.2.2.2.2.1
  intro n
  induction n with
  | zero =>
    intro x1 t_count t_parameters t_length t_now out hf
    exact g_no hf
  | succ n ih =>
    intro x1 t_count t_parameters t_length t_now out hf H locs ls hW hl
    refine lv_iload_n hx hb dX8_specialises_2 rfl (lv_at hl 1 rfl) ?_
    refine lv_bipush (v := 16) hx hb dX8_specialises_3 (by decide) ?_
    refine lv_aload_n hx hb dX8_specialises_5 rfl (lv_at hl 0 rfl) ?_
    refine gs_get hC hW in_X8 0 2 rfl rfl (by decide) fl_X8_85 rfl dX8_specialises_6 ?_
    refine lv_imul hx hb dX8_specialises_9 ?_
    refine lv_icmp_ge (tgt := 27) hx hb dX8_specialises_10 (by decide) (fun c16 => ?_) (fun c16 => ?_)
    · replace hf := (if_pos c16).symm.trans hf
      exact b_X8_specialises_27 hC hf hW (lv_sub hl [0, 1] rfl)
    · replace hf := (if_neg c16).symm.trans hf
      refine lv_aload_n hx hb dX8_specialises_13 rfl (lv_at hl 0 rfl) ?_
      refine lv_iload_n hx hb dX8_specialises_14 rfl (lv_at hl 1 rfl) ?_
      obtain ⟨o17, h17, hf⟩ := g_bnd hf
      refine gs_callVi (ws' := w_X8_specialises cI cZ cJ a_t a_t_parameters a_t_length a_t_now a_t_met a_t_any a_t_number a_t_newLength a_t_first a_t_anew a_t_table a_t_inputs a_t_outAny a_t_out a_t_at a_t_in a_t_back a_t_register a_t_output a_t_calls a_t_latest a_t_differ t_code t_own t_count t_tableSize t_given t_known t_news t_depth t_steps t_taken t_shown t_outcome t_parameters t_length t_now t_met t_any t_number) hC hW (k_X8_isSpecial l tA dC dI cI cZ cJ a_t a_t_parameters a_t_length a_t_now a_t_met a_t_any a_t_newLength a_t_first a_t_anew a_t_table a_t_inputs a_t_number a_t_outAny a_t_out a_t_at a_t_in a_t_back a_t_register a_t_output a_t_calls a_t_latest a_t_differ N x1 t_code t_own t_count t_tableSize t_given t_known t_news t_depth t_steps t_taken t_shown t_outcome t_parameters t_length t_now t_met t_any _ h17) yk_X8_isSpecial lk_X8_158 iv_X8_isSpecial ⟨rfl, rfl⟩ ⟨Nat.le_of_ble_eq_true rfl, Nat.le_of_ble_eq_true rfl⟩ hl.1 0 rfl rfl [0, 1, 2, 3, 4, 5] [6] [1, 2, 3, 4, 5, 6, 0] rfl rfl rfl rfl (by decide) rfl rfl rfl rfl (Nat.le_of_ble_eq_true rfl) dX8_specialises_15 ⟨Nat.zero_le _, Nat.zero_le _⟩ (fun H locs hW => ?_)
      refine lv_if_ne (tgt := 27) hx hb dX8_specialises_18 (by decide) (fun c18 => ?_) (fun c18 => ?_)
      · replace hf := (if_neg c18).symm.trans hf
        exact b_X8_specialises_27 hC hf hW (lv_sub hl [0, 1] rfl)
      · replace hf := (if_pos c18).symm.trans hf
        refine lv_iinc (v := x1 + 1) (lv' := [(1, .int (x1 + 1)), (0, .ref a_t)]) hx hb dX8_specialises_21 hl (k := 1) rfl rfl (by decide) rfl (fun ls hl => ?_)
        refine lv_goto (tgt := 2) hx hb dX8_specialises_24 (by decide) ?_
        exact ih _ _ _ _ _ _ hf _ _ _ hW (lv_sub hl [1, 0] rfl)
def f_X8_specialises (N : Nat) (t_count : Int32) (t_parameters : Nat → Int32) (t_length : Nat → Int32) (t_now : Nat → Int32) (t_met : Nat → Int32) (t_any : Nat → Int32) (t_number : Nat → Int32) : Option (Int32 × Int32 × (Nat → Int32) × (Nat → Int32) × (Nat → Int32)) := f_X8_specialises_2 N t_met t_any t_number N 0 t_count t_parameters t_length t_now
set_option maxHeartbeats 4000000 in
set_option maxRecDepth 100000 in
theorem k_X8_specialises (l : Launch) (tA : Nat) (dC : Nat → ClassId) (dI : Nat → Nat → Nat) (cI cZ cJ : ClassId) (a_t : Nat) (a_t_parameters : Nat) (a_t_length : Nat) (a_t_now : Nat) (a_t_met : Nat) (a_t_any : Nat) (a_t_number : Nat) (a_t_newLength : Nat) (a_t_first : Nat) (a_t_anew : Nat) (a_t_table : Nat) (a_t_inputs : Nat) (a_t_outAny : Nat) (a_t_out : Nat) (a_t_at : Nat) (a_t_in : Nat) (a_t_back : Nat) (a_t_register : Nat) (a_t_output : Nat) (a_t_calls : Nat) (a_t_latest : Nat) (a_t_differ : Nat) (N : Nat) (t_code : Int32) (t_own : Int32) (t_count : Int32) (t_tableSize : Int32) (t_given : Int32) (t_known : Int32) (t_news : Int32) (t_depth : Int32) (t_steps : Int32) (t_taken : Int32) (t_shown : Int32) (t_outcome : Int32) (t_parameters : Nat → Int32) (t_length : Nat → Int32) (t_now : Nat → Int32) (t_met : Nat → Int32) (t_any : Nat → Int32) (t_number : Nat → Int32) (out : Int32 × Int32 × (Nat → Int32) × (Nat → Int32) × (Nat → Int32)) (hf : f_X8_specialises N t_count t_parameters t_length t_now t_met t_any t_number = some out) : g_Mi l yX8_specialises cX8_specialises 4 (some .boolean) r_X8_specialises tA dC dI cI cZ cJ [.ref a_t] (w_X8_specialises cI cZ cJ a_t a_t_parameters a_t_length a_t_now a_t_met a_t_any a_t_number a_t_newLength a_t_first a_t_anew a_t_table a_t_inputs a_t_outAny a_t_out a_t_at a_t_in a_t_back a_t_register a_t_output a_t_calls a_t_latest a_t_differ t_code t_own t_count t_tableSize t_given t_known t_news t_depth t_steps t_taken t_shown t_outcome t_parameters t_length t_now t_met t_any t_number) (w_X8_specialises cI cZ cJ a_t a_t_parameters a_t_length a_t_now a_t_met a_t_any a_t_number a_t_newLength a_t_first a_t_anew a_t_table a_t_inputs a_t_outAny a_t_out a_t_at a_t_in a_t_back a_t_register a_t_output a_t_calls a_t_latest a_t_differ t_code t_own out.2.1 t_tableSize t_given t_known t_news t_depth t_steps t_taken t_shown t_outcome out.2.2.1 out.2.2.2.1 out.2.2.2.2 t_met t_any t_number) out.1 := by
  unfold f_X8_specialises at hf
  refine ge_i (by decide) (Nat.le_of_ble_eq_true rfl) (fun p e s m below meth c A H locs ls hC hW hl => ?_)
  have hC : g_C p s m meth c _ cX8_specialises 4 (some .boolean) RX8 := hC
  have hx := hC.1
  have hb := hC.2.1
  have hown := hC.2.2.2.2.1
  have hts := hC.2.2.2.2.2.1
  have hl : lv_has ls 4 [(0, .ref a_t)] := hl
  refine lv_iconst (v := 0) hx hb dX8_specialises_0 (by decide) ?_
  refine lv_istore_n (lv' := [(1, .int 0), (0, .ref a_t)]) hx hb dX8_specialises_1 rfl hl (by decide) rfl (fun ls hl => ?_)
  exact b_X8_specialises_2 hC N _ _ _ _ _ _ hf _ _ _ hW (lv_sub hl [1, 0] rfl)

abbrev w_X8_operandOf (cI cZ cJ : ClassId) : va_W := []
abbrev r_X8_operandOf : Room := { frames := 0, cells := 0, slots := 0, locals := 0 }
def f_X8_operandOf (x0 : Int32) : Option (Int32) := some ((x0 <<< (3 &&& 31)) ||| 7)
set_option maxHeartbeats 4000000 in
set_option maxRecDepth 100000 in
theorem k_X8_operandOf (l : Launch) (tA : Nat) (dC : Nat → ClassId) (dI : Nat → Nat → Nat) (cI cZ cJ : ClassId) (x0 : Int32) (out : Int32) (hf : f_X8_operandOf x0 = some out) : g_Mi l yX8_operandOf cX8_operandOf 1 (some .int) r_X8_operandOf tA dC dI cI cZ cJ [.int x0] (w_X8_operandOf cI cZ cJ ) (w_X8_operandOf cI cZ cJ ) out := by
  unfold f_X8_operandOf at hf
  refine ge_i (by decide) (Nat.le_of_ble_eq_true rfl) (fun p e s m below meth c A H locs ls hC hW hl => ?_)
  have hC : g_C p s m meth c _ cX8_operandOf 1 (some .int) RX8 := hC
  have hx := hC.1
  have hb := hC.2.1
  have hown := hC.2.2.2.2.1
  have hts := hC.2.2.2.2.2.1
  have hl : lv_has ls 1 [(0, .int x0)] := hl
  refine lv_iload_n hx hb dX8_operandOf_0 rfl (lv_at hl 0 rfl) ?_
  refine lv_iconst (v := 3) hx hb dX8_operandOf_1 (by decide) ?_
  refine lv_ishl hx hb dX8_operandOf_2 ?_
  refine lv_bipush (v := 7) hx hb dX8_operandOf_3 (by decide) ?_
  refine lv_ior hx hb dX8_operandOf_5 ?_
  obtain rfl := Option.some.inj hf
  exact gs_ri hC hW rfl dX8_operandOf_6

abbrev w_X8_renew (cI cZ cJ : ClassId) (a_t : Nat) (a_t_now : Nat) (a_t_anew : Nat) (a_t_table : Nat) (a_t_met : Nat) (a_t_any : Nat) (a_t_number : Nat) (a_t_parameters : Nat) (a_t_length : Nat) (a_t_newLength : Nat) (a_t_first : Nat) (a_t_inputs : Nat) (a_t_outAny : Nat) (a_t_out : Nat) (a_t_at : Nat) (a_t_in : Nat) (a_t_back : Nat) (a_t_register : Nat) (a_t_output : Nat) (a_t_calls : Nat) (a_t_latest : Nat) (a_t_differ : Nat) (t_code : Int32) (t_own : Int32) (t_count : Int32) (t_tableSize : Int32) (t_given : Int32) (t_known : Int32) (t_news : Int32) (t_depth : Int32) (t_steps : Int32) (t_taken : Int32) (t_shown : Int32) (t_outcome : Int32) (t_now : Nat → Int32) (t_anew : Nat → Int32) (t_table : Nat → Int32) (t_met : Nat → Int32) (t_any : Nat → Int32) (t_number : Nat → Int32) : va_W := [(a_t, .inr (8, [.int t_code, .int t_own, .int t_count, .ref a_t_parameters, .ref a_t_length, .ref a_t_newLength, .ref a_t_first, .ref a_t_now, .ref a_t_anew, .int t_tableSize, .ref a_t_table, .int t_given, .ref a_t_inputs, .int t_known, .ref a_t_met, .ref a_t_any, .ref a_t_number, .int t_news, .ref a_t_outAny, .ref a_t_out, .int t_depth, .int t_steps, .int t_taken, .int t_shown, .ref a_t_at, .ref a_t_in, .ref a_t_back, .ref a_t_register, .ref a_t_output, .ref a_t_calls, .ref a_t_latest, .ref a_t_differ, .int t_outcome])), (a_t_now, .inl (cI, 1152, .inl t_now)), (a_t_anew, .inl (cI, 1152, .inl t_anew)), (a_t_table, .inl (cI, 4, .inl t_table)), (a_t_met, .inl (cZ, 204, .inl t_met)), (a_t_any, .inl (cZ, 1224, .inl t_any)), (a_t_number, .inl (cI, 1224, .inl t_number))]
abbrev r_X8_renew : Room := { frames := 2, cells := 0, slots := 0, locals := 42 }
def f_X8_renew_272 (N : Nat) (x1 : Int32) (x2 : Int32) (t_tableSize : Int32) (t_now : Nat → Int32) (t_table : Nat → Int32) (t_met : Nat → Int32) (t_any : Nat → Int32) (t_number : Nat → Int32) (x3 : Int32) (z0 : Int32) (z1 : Int32) (t_anew : Nat → Int32) : Option (Nat → Int32) := (g_wr 1152 t_anew z1 z0).bind (fun s1 => if t_tableSize = 0 then (f_X8_operandOf 0).bind (fun o6 => (g_wr 1152 s1 (x3 + 3) o6).bind (fun s7 => some s7)) else (g_rd 1152 s1 (x3 + 2)).bind (fun v3 => (f_X8_entry (v3 >>> (3 &&& 31)) t_tableSize t_table).bind (fun o4 => (g_wr 1152 s1 (x3 + 2) o4).bind (fun s5 => some s5))))
set_option maxHeartbeats 4000000 in
set_option maxRecDepth 100000 in
theorem b_X8_renew_272 {p : Program} {l : Launch} {e : Env} {s : State} {m : MethodId} {args : Array Value} {below : List Frame} {meth : Method} {c : Code} {tA : Nat} {dC : Nat → ClassId} {dI : Nat → Nat → Nat} {cI cZ cJ : ClassId} {A : Nat → Prop} {a_t : Nat} {a_t_now : Nat} {a_t_anew : Nat} {a_t_table : Nat} {a_t_met : Nat} {a_t_any : Nat} {a_t_number : Nat} {a_t_parameters : Nat} {a_t_length : Nat} {a_t_newLength : Nat} {a_t_first : Nat} {a_t_inputs : Nat} {a_t_outAny : Nat} {a_t_out : Nat} {a_t_at : Nat} {a_t_in : Nat} {a_t_back : Nat} {a_t_register : Nat} {a_t_output : Nat} {a_t_calls : Nat} {a_t_latest : Nat} {a_t_differ : Nat} {x1 : Int32} {x2 : Int32} {t_tableSize : Int32} {t_now : Nat → Int32} {t_table : Nat → Int32} {t_met : Nat → Int32} {t_any : Nat → Int32} {t_number : Nat → Int32} {t_code : Int32} {t_own : Int32} {t_count : Int32} {t_given : Int32} {t_known : Int32} {t_news : Int32} {t_depth : Int32} {t_steps : Int32} {t_taken : Int32} {t_shown : Int32} {t_outcome : Int32} {N : Nat} {x3 : Int32} {z0 : Int32} {z1 : Int32} {t_anew : Nat → Int32} {out : Nat → Int32} (hC : g_C p s m meth c args cX8_renew 8 (none : Option Jvm.ClassFile.FieldType) RX8) (hf : f_X8_renew_272 N x1 x2 t_tableSize t_now t_table t_met t_any t_number x3 z0 z1 t_anew = some out) {H : Heap} {locs : List Loc} {ls : Array Slot} (hW : g_W tA dC dI cI cZ cJ A s H locs (w_X8_renew cI cZ cJ a_t a_t_now a_t_anew a_t_table a_t_met a_t_any a_t_number a_t_parameters a_t_length a_t_newLength a_t_first a_t_inputs a_t_outAny a_t_out a_t_at a_t_in a_t_back a_t_register a_t_output a_t_calls a_t_latest a_t_differ t_code t_own t_count t_tableSize t_given t_known t_news t_depth t_steps t_taken t_shown t_outcome t_now t_anew t_table t_met t_any t_number)) (hl : lv_has ls 8 [(0, .ref a_t), (3, .int x3)]) : W p l e r_X8_renew s m args below meth c H locs 0 0 (MQ below (g_Qv dC dI cI cZ cJ A (w_X8_renew cI cZ cJ a_t a_t_now a_t_anew a_t_table a_t_met a_t_any a_t_number a_t_parameters a_t_length a_t_newLength a_t_first a_t_inputs a_t_outAny a_t_out a_t_at a_t_in a_t_back a_t_register a_t_output a_t_calls a_t_latest a_t_differ t_code t_own t_count t_tableSize t_given t_known t_news t_depth t_steps t_taken t_shown t_outcome t_now out t_table t_met t_any t_number)) args s 0 0 A) (F0 m 272 ls [.int z0, .int z1, .ref a_t_anew]) := by
  have hx := hC.1
  have hb := hC.2.1
  have hown := hC.2.2.2.2.1
  have hts := hC.2.2.2.2.2.1
  unfold f_X8_renew_272 at hf
  obtain ⟨s1, h1, hf⟩ := g_bnd hf
  refine gs_iast (ws' := w_X8_renew cI cZ cJ a_t a_t_now a_t_anew a_t_table a_t_met a_t_any a_t_number a_t_parameters a_t_length a_t_newLength a_t_first a_t_inputs a_t_outAny a_t_out a_t_at a_t_in a_t_back a_t_register a_t_output a_t_calls a_t_latest a_t_differ t_code t_own t_count t_tableSize t_given t_known t_news t_depth t_steps t_taken t_shown t_outcome t_now s1 t_table t_met t_any t_number) hC hW 2 h1 rfl rfl dX8_renew_272 (fun H locs hW => ?_)
  refine lv_aload_n hx hb dX8_renew_273 rfl (lv_at hl 0 rfl) ?_
  refine gs_get hC hW in_X8 0 9 rfl rfl (by decide) fl_X8_106 rfl dX8_renew_274 ?_
  refine lv_if_ne (tgt := 295) hx hb dX8_renew_277 (by decide) (fun c2 => ?_) (fun c2 => ?_)
  · replace hf := (if_neg c2).symm.trans hf
    refine lv_aload_n hx hb dX8_renew_295 rfl (lv_at hl 0 rfl) ?_
    refine gs_get hC hW in_X8 0 8 rfl rfl (by decide) fl_X8_25 rfl dX8_renew_296 ?_
    refine lv_iload_n hx hb dX8_renew_299 rfl (lv_at hl 1 rfl) ?_
    refine lv_iconst (v := 2) hx hb dX8_renew_300 (by decide) ?_
    refine lv_iadd hx hb dX8_renew_301 ?_
    refine lv_aload_n hx hb dX8_renew_302 rfl (lv_at hl 0 rfl) ?_
    refine lv_aload_n hx hb dX8_renew_303 rfl (lv_at hl 0 rfl) ?_
    refine gs_get hC hW in_X8 0 8 rfl rfl (by decide) fl_X8_25 rfl dX8_renew_304 ?_
    refine lv_iload_n hx hb dX8_renew_307 rfl (lv_at hl 1 rfl) ?_
    refine lv_iconst (v := 2) hx hb dX8_renew_308 (by decide) ?_
    refine lv_iadd hx hb dX8_renew_309 ?_
    obtain ⟨v3, h3, hf⟩ := g_bnd hf
    refine gs_iald hC hW 2 h3 rfl dX8_renew_310 ?_
    refine lv_iconst (v := 3) hx hb dX8_renew_311 (by decide) ?_
    refine lv_ishr hx hb dX8_renew_312 ?_
    obtain ⟨o4, h4, hf⟩ := g_bnd hf
    refine gs_callVi (ws' := w_X8_renew cI cZ cJ a_t a_t_now a_t_anew a_t_table a_t_met a_t_any a_t_number a_t_parameters a_t_length a_t_newLength a_t_first a_t_inputs a_t_outAny a_t_out a_t_at a_t_in a_t_back a_t_register a_t_output a_t_calls a_t_latest a_t_differ t_code t_own t_count t_tableSize t_given t_known t_news t_depth t_steps t_taken t_shown t_outcome t_now s1 t_table t_met t_any t_number) hC hW (k_X8_entry l tA dC dI cI cZ cJ a_t a_t_table a_t_parameters a_t_length a_t_newLength a_t_first a_t_now a_t_anew a_t_inputs a_t_met a_t_any a_t_number a_t_outAny a_t_out a_t_at a_t_in a_t_back a_t_register a_t_output a_t_calls a_t_latest a_t_differ (v3 >>> (3 &&& 31)) t_code t_own t_count t_tableSize t_given t_known t_news t_depth t_steps t_taken t_shown t_outcome t_table _ h4) yk_X8_entry lk_X8_134 iv_X8_entry ⟨rfl, rfl⟩ ⟨Nat.le_of_ble_eq_true rfl, Nat.le_of_ble_eq_true rfl⟩ hl.1 0 rfl rfl [0, 3] [1, 2, 4, 5, 6] [5, 0, 1, 6, 2, 3, 4] rfl rfl rfl rfl (by decide) rfl rfl rfl rfl (Nat.le_of_ble_eq_true rfl) dX8_renew_313 ⟨Nat.zero_le _, Nat.zero_le _⟩ (fun H locs hW => ?_)
    obtain ⟨s5, h5, hf⟩ := g_bnd hf
    refine gs_iast (ws' := w_X8_renew cI cZ cJ a_t a_t_now a_t_anew a_t_table a_t_met a_t_any a_t_number a_t_parameters a_t_length a_t_newLength a_t_first a_t_inputs a_t_outAny a_t_out a_t_at a_t_in a_t_back a_t_register a_t_output a_t_calls a_t_latest a_t_differ t_code t_own t_count t_tableSize t_given t_known t_news t_depth t_steps t_taken t_shown t_outcome t_now s5 t_table t_met t_any t_number) hC hW 2 h5 rfl rfl dX8_renew_316 (fun H locs hW => ?_)
    obtain rfl := Option.some.inj hf
    exact gs_rv hC hW rfl dX8_renew_317
  · replace hf := (if_pos c2).symm.trans hf
    refine lv_aload_n hx hb dX8_renew_280 rfl (lv_at hl 0 rfl) ?_
    refine gs_get hC hW in_X8 0 8 rfl rfl (by decide) fl_X8_25 rfl dX8_renew_281 ?_
    refine lv_iload_n hx hb dX8_renew_284 rfl (lv_at hl 1 rfl) ?_
    refine lv_iconst (v := 3) hx hb dX8_renew_285 (by decide) ?_
    refine lv_iadd hx hb dX8_renew_286 ?_
    refine lv_iconst (v := 0) hx hb dX8_renew_287 (by decide) ?_
    obtain ⟨o6, h6, hf⟩ := g_bnd hf
    refine gs_callSi (ws' := w_X8_renew cI cZ cJ a_t a_t_now a_t_anew a_t_table a_t_met a_t_any a_t_number a_t_parameters a_t_length a_t_newLength a_t_first a_t_inputs a_t_outAny a_t_out a_t_at a_t_in a_t_back a_t_register a_t_output a_t_calls a_t_latest a_t_differ t_code t_own t_count t_tableSize t_given t_known t_news t_depth t_steps t_taken t_shown t_outcome t_now s1 t_table t_met t_any t_number) hC hW (k_X8_operandOf l tA dC dI cI cZ cJ 0 _ h6) yk_X8_operandOf lk_X8_174 is_X8_operandOf ⟨rfl, rfl⟩ ⟨Nat.le_of_ble_eq_true rfl, Nat.le_of_ble_eq_true rfl⟩ hl.1 [] [0, 1, 2, 3, 4, 5, 6] [0, 1, 2, 3, 4, 5, 6] rfl rfl rfl rfl (by decide) rfl rfl rfl rfl (Nat.le_of_ble_eq_true rfl) dX8_renew_288 ⟨Nat.zero_le _, Nat.zero_le _⟩ (fun H locs hW => ?_)
    obtain ⟨s7, h7, hf⟩ := g_bnd hf
    refine gs_iast (ws' := w_X8_renew cI cZ cJ a_t a_t_now a_t_anew a_t_table a_t_met a_t_any a_t_number a_t_parameters a_t_length a_t_newLength a_t_first a_t_inputs a_t_outAny a_t_out a_t_at a_t_in a_t_back a_t_register a_t_output a_t_calls a_t_latest a_t_differ t_code t_own t_count t_tableSize t_given t_known t_news t_depth t_steps t_taken t_shown t_outcome t_now s7 t_table t_met t_any t_number) hC hW 2 h7 rfl rfl dX8_renew_291 (fun H locs hW => ?_)
    refine lv_goto (tgt := 317) hx hb dX8_renew_292 (by decide) ?_
    obtain rfl := Option.some.inj hf
    exact gs_rv hC hW rfl dX8_renew_317
def f_X8_renew_127 (N : Nat) (k82 : Int32 → Int32 → Int32 → Int32 → (Nat → Int32) → Option (Nat → Int32)) (x1 : Int32) (x2 : Int32) (t_tableSize : Int32) (t_now : Nat → Int32) (t_table : Nat → Int32) (t_met : Nat → Int32) (t_any : Nat → Int32) (t_number : Nat → Int32) (x3 : Int32) (x4 : Int32) (x5 : Int32) (x6 : Int32) (z0 : Int32) (t_anew : Nat → Int32) : Option (Nat → Int32) := if z0 = 0 then k82 x3 x4 x5 (x6 + 1) t_anew else (g_rd 1152 t_now (x3 + x6)).bind (fun v9 => (f_X8_has x4 v9 t_any).bind (fun o10 => if o10 = 0 then k82 x3 x4 x5 (x6 + 1) t_anew else (g_rd 1152 t_now (x3 + x6)).bind (fun v12 => (f_X8_valueAt x4 v12 t_number).bind (fun o13 => (f_X8_operandOf o13).bind (fun o14 => (g_wr 1152 t_anew (x3 + x6) o14).bind (fun s15 => k82 x3 x4 x5 (x6 + 1) s15))))))
set_option maxHeartbeats 4000000 in
set_option maxRecDepth 100000 in
theorem b_X8_renew_127 {p : Program} {l : Launch} {e : Env} {s : State} {m : MethodId} {args : Array Value} {below : List Frame} {meth : Method} {c : Code} {tA : Nat} {dC : Nat → ClassId} {dI : Nat → Nat → Nat} {cI cZ cJ : ClassId} {A : Nat → Prop} {a_t : Nat} {a_t_now : Nat} {a_t_anew : Nat} {a_t_table : Nat} {a_t_met : Nat} {a_t_any : Nat} {a_t_number : Nat} {a_t_parameters : Nat} {a_t_length : Nat} {a_t_newLength : Nat} {a_t_first : Nat} {a_t_inputs : Nat} {a_t_outAny : Nat} {a_t_out : Nat} {a_t_at : Nat} {a_t_in : Nat} {a_t_back : Nat} {a_t_register : Nat} {a_t_output : Nat} {a_t_calls : Nat} {a_t_latest : Nat} {a_t_differ : Nat} {x1 : Int32} {x2 : Int32} {t_tableSize : Int32} {t_now : Nat → Int32} {t_table : Nat → Int32} {t_met : Nat → Int32} {t_any : Nat → Int32} {t_number : Nat → Int32} {t_code : Int32} {t_own : Int32} {t_count : Int32} {t_given : Int32} {t_known : Int32} {t_news : Int32} {t_depth : Int32} {t_steps : Int32} {t_taken : Int32} {t_shown : Int32} {t_outcome : Int32} {N : Nat} {k82 : Int32 → Int32 → Int32 → Int32 → (Nat → Int32) → Option (Nat → Int32)} {x3 : Int32} {x4 : Int32} {x5 : Int32} {x6 : Int32} {z0 : Int32} {t_anew : Nat → Int32} {out : Nat → Int32} (hC : g_C p s m meth c args cX8_renew 8 (none : Option Jvm.ClassFile.FieldType) RX8) (hk82 : ∀ (x3 : Int32) (x4 : Int32) (x5 : Int32) (x6 : Int32) (t_anew : Nat → Int32) (out : Nat → Int32), k82 x3 x4 x5 x6 t_anew = some out → ∀ (H : Heap) (locs : List Loc) (ls : Array Slot), g_W tA dC dI cI cZ cJ A s H locs (w_X8_renew cI cZ cJ a_t a_t_now a_t_anew a_t_table a_t_met a_t_any a_t_number a_t_parameters a_t_length a_t_newLength a_t_first a_t_inputs a_t_outAny a_t_out a_t_at a_t_in a_t_back a_t_register a_t_output a_t_calls a_t_latest a_t_differ t_code t_own t_count t_tableSize t_given t_known t_news t_depth t_steps t_taken t_shown t_outcome t_now t_anew t_table t_met t_any t_number) → lv_has ls 8 [(0, .ref a_t), (3, .int x3), (4, .int x4), (5, .int x5), (6, .int x6)] → W p l e r_X8_renew s m args below meth c H locs 0 0 (MQ below (g_Qv dC dI cI cZ cJ A (w_X8_renew cI cZ cJ a_t a_t_now a_t_anew a_t_table a_t_met a_t_any a_t_number a_t_parameters a_t_length a_t_newLength a_t_first a_t_inputs a_t_outAny a_t_out a_t_at a_t_in a_t_back a_t_register a_t_output a_t_calls a_t_latest a_t_differ t_code t_own t_count t_tableSize t_given t_known t_news t_depth t_steps t_taken t_shown t_outcome t_now out t_table t_met t_any t_number)) args s 0 0 A) (F0 m 82 ls [])) (hf : f_X8_renew_127 N k82 x1 x2 t_tableSize t_now t_table t_met t_any t_number x3 x4 x5 x6 z0 t_anew = some out) {H : Heap} {locs : List Loc} {ls : Array Slot} (hW : g_W tA dC dI cI cZ cJ A s H locs (w_X8_renew cI cZ cJ a_t a_t_now a_t_anew a_t_table a_t_met a_t_any a_t_number a_t_parameters a_t_length a_t_newLength a_t_first a_t_inputs a_t_outAny a_t_out a_t_at a_t_in a_t_back a_t_register a_t_output a_t_calls a_t_latest a_t_differ t_code t_own t_count t_tableSize t_given t_known t_news t_depth t_steps t_taken t_shown t_outcome t_now t_anew t_table t_met t_any t_number)) (hl : lv_has ls 8 [(0, .ref a_t), (3, .int x3), (4, .int x4), (5, .int x5), (6, .int x6)]) : W p l e r_X8_renew s m args below meth c H locs 0 0 (MQ below (g_Qv dC dI cI cZ cJ A (w_X8_renew cI cZ cJ a_t a_t_now a_t_anew a_t_table a_t_met a_t_any a_t_number a_t_parameters a_t_length a_t_newLength a_t_first a_t_inputs a_t_outAny a_t_out a_t_at a_t_in a_t_back a_t_register a_t_output a_t_calls a_t_latest a_t_differ t_code t_own t_count t_tableSize t_given t_known t_news t_depth t_steps t_taken t_shown t_outcome t_now out t_table t_met t_any t_number)) args s 0 0 A) (F0 m 127 ls [.int z0]) := by
  have hx := hC.1
  have hb := hC.2.1
  have hown := hC.2.2.2.2.1
  have hts := hC.2.2.2.2.2.1
  unfold f_X8_renew_127 at hf
  refine lv_istore (lv' := [(7, .int z0), (0, .ref a_t), (3, .int x3), (4, .int x4), (5, .int x5), (6, .int x6)]) hx hb dX8_renew_127 hl (by decide) rfl (fun ls hl => ?_)
  refine lv_iload hx hb dX8_renew_129 (lv_at hl 0 rfl) ?_
  refine lv_if_eq (tgt := 179) hx hb dX8_renew_131 (by decide) (fun c8 => ?_) (fun c8 => ?_)
  · replace hf := (if_pos c8).symm.trans hf
    refine lv_iinc (v := x6 + 1) (lv' := [(6, .int (x6 + 1)), (7, .int z0), (0, .ref a_t), (3, .int x3), (4, .int x4), (5, .int x5)]) hx hb dX8_renew_179 hl (k := 5) rfl rfl (by decide) rfl (fun ls hl => ?_)
    refine lv_goto (tgt := 82) hx hb dX8_renew_182 (by decide) ?_
    exact hk82 _ _ _ _ _ _ hf _ _ _ hW (lv_sub hl [2, 3, 4, 5, 0] rfl)
  · replace hf := (if_neg c8).symm.trans hf
    refine lv_aload_n hx hb dX8_renew_134 rfl (lv_at hl 1 rfl) ?_
    refine lv_iload hx hb dX8_renew_135 (lv_at hl 3 rfl) ?_
    refine lv_aload_n hx hb dX8_renew_137 rfl (lv_at hl 1 rfl) ?_
    refine gs_get hC hW in_X8 0 7 rfl rfl (by decide) fl_X8_22 rfl dX8_renew_138 ?_
    refine lv_iload_n hx hb dX8_renew_141 rfl (lv_at hl 2 rfl) ?_
    refine lv_iload hx hb dX8_renew_142 (lv_at hl 5 rfl) ?_
    refine lv_iadd hx hb dX8_renew_144 ?_
    obtain ⟨v9, h9, hf⟩ := g_bnd hf
    refine gs_iald hC hW 1 h9 rfl dX8_renew_145 ?_
    obtain ⟨o10, h10, hf⟩ := g_bnd hf
    refine gs_callVi (ws' := w_X8_renew cI cZ cJ a_t a_t_now a_t_anew a_t_table a_t_met a_t_any a_t_number a_t_parameters a_t_length a_t_newLength a_t_first a_t_inputs a_t_outAny a_t_out a_t_at a_t_in a_t_back a_t_register a_t_output a_t_calls a_t_latest a_t_differ t_code t_own t_count t_tableSize t_given t_known t_news t_depth t_steps t_taken t_shown t_outcome t_now t_anew t_table t_met t_any t_number) hC hW (k_X8_has l tA dC dI cI cZ cJ a_t a_t_any a_t_parameters a_t_length a_t_newLength a_t_first a_t_now a_t_anew a_t_table a_t_inputs a_t_met a_t_number a_t_outAny a_t_out a_t_at a_t_in a_t_back a_t_register a_t_output a_t_calls a_t_latest a_t_differ x4 v9 t_code t_own t_count t_tableSize t_given t_known t_news t_depth t_steps t_taken t_shown t_outcome t_any _ h10) yk_X8_has lk_X8_118 iv_X8_has ⟨rfl, rfl⟩ ⟨Nat.le_of_ble_eq_true rfl, Nat.le_of_ble_eq_true rfl⟩ hl.1 0 rfl rfl [0, 5] [1, 2, 3, 4, 6] [5, 0, 1, 2, 3, 6, 4] rfl rfl rfl rfl (by decide) rfl rfl rfl rfl (Nat.le_of_ble_eq_true rfl) dX8_renew_146 ⟨Nat.zero_le _, Nat.zero_le _⟩ (fun H locs hW => ?_)
    refine lv_if_eq (tgt := 179) hx hb dX8_renew_149 (by decide) (fun c11 => ?_) (fun c11 => ?_)
    · replace hf := (if_pos c11).symm.trans hf
      refine lv_iinc (v := x6 + 1) (lv' := [(6, .int (x6 + 1)), (7, .int z0), (0, .ref a_t), (3, .int x3), (4, .int x4), (5, .int x5)]) hx hb dX8_renew_179 hl (k := 5) rfl rfl (by decide) rfl (fun ls hl => ?_)
      refine lv_goto (tgt := 82) hx hb dX8_renew_182 (by decide) ?_
      exact hk82 _ _ _ _ _ _ hf _ _ _ hW (lv_sub hl [2, 3, 4, 5, 0] rfl)
    · replace hf := (if_neg c11).symm.trans hf
      refine lv_aload_n hx hb dX8_renew_152 rfl (lv_at hl 1 rfl) ?_
      refine gs_get hC hW in_X8 0 8 rfl rfl (by decide) fl_X8_25 rfl dX8_renew_153 ?_
      refine lv_iload_n hx hb dX8_renew_156 rfl (lv_at hl 2 rfl) ?_
      refine lv_iload hx hb dX8_renew_157 (lv_at hl 5 rfl) ?_
      refine lv_iadd hx hb dX8_renew_159 ?_
      refine lv_aload_n hx hb dX8_renew_160 rfl (lv_at hl 1 rfl) ?_
      refine lv_iload hx hb dX8_renew_161 (lv_at hl 3 rfl) ?_
      refine lv_aload_n hx hb dX8_renew_163 rfl (lv_at hl 1 rfl) ?_
      refine gs_get hC hW in_X8 0 7 rfl rfl (by decide) fl_X8_22 rfl dX8_renew_164 ?_
      refine lv_iload_n hx hb dX8_renew_167 rfl (lv_at hl 2 rfl) ?_
      refine lv_iload hx hb dX8_renew_168 (lv_at hl 5 rfl) ?_
      refine lv_iadd hx hb dX8_renew_170 ?_
      obtain ⟨v12, h12, hf⟩ := g_bnd hf
      refine gs_iald hC hW 1 h12 rfl dX8_renew_171 ?_
      obtain ⟨o13, h13, hf⟩ := g_bnd hf
      refine gs_callVi (ws' := w_X8_renew cI cZ cJ a_t a_t_now a_t_anew a_t_table a_t_met a_t_any a_t_number a_t_parameters a_t_length a_t_newLength a_t_first a_t_inputs a_t_outAny a_t_out a_t_at a_t_in a_t_back a_t_register a_t_output a_t_calls a_t_latest a_t_differ t_code t_own t_count t_tableSize t_given t_known t_news t_depth t_steps t_taken t_shown t_outcome t_now t_anew t_table t_met t_any t_number) hC hW (k_X8_valueAt l tA dC dI cI cZ cJ a_t a_t_number a_t_parameters a_t_length a_t_newLength a_t_first a_t_now a_t_anew a_t_table a_t_inputs a_t_met a_t_any a_t_outAny a_t_out a_t_at a_t_in a_t_back a_t_register a_t_output a_t_calls a_t_latest a_t_differ x4 v12 t_code t_own t_count t_tableSize t_given t_known t_news t_depth t_steps t_taken t_shown t_outcome t_number _ h13) yk_X8_valueAt lk_X8_122 iv_X8_valueAt ⟨rfl, rfl⟩ ⟨Nat.le_of_ble_eq_true rfl, Nat.le_of_ble_eq_true rfl⟩ hl.1 0 rfl rfl [0, 6] [1, 2, 3, 4, 5] [5, 0, 1, 2, 3, 4, 6] rfl rfl rfl rfl (by decide) rfl rfl rfl rfl (Nat.le_of_ble_eq_true rfl) dX8_renew_172 ⟨Nat.zero_le _, Nat.zero_le _⟩ (fun H locs hW => ?_)
      obtain ⟨o14, h14, hf⟩ := g_bnd hf
      refine gs_callSi (ws' := w_X8_renew cI cZ cJ a_t a_t_now a_t_anew a_t_table a_t_met a_t_any a_t_number a_t_parameters a_t_length a_t_newLength a_t_first a_t_inputs a_t_outAny a_t_out a_t_at a_t_in a_t_back a_t_register a_t_output a_t_calls a_t_latest a_t_differ t_code t_own t_count t_tableSize t_given t_known t_news t_depth t_steps t_taken t_shown t_outcome t_now t_anew t_table t_met t_any t_number) hC hW (k_X8_operandOf l tA dC dI cI cZ cJ o13 _ h14) yk_X8_operandOf lk_X8_174 is_X8_operandOf ⟨rfl, rfl⟩ ⟨Nat.le_of_ble_eq_true rfl, Nat.le_of_ble_eq_true rfl⟩ hl.1 [] [0, 1, 2, 3, 4, 5, 6] [0, 1, 2, 3, 4, 5, 6] rfl rfl rfl rfl (by decide) rfl rfl rfl rfl (Nat.le_of_ble_eq_true rfl) dX8_renew_175 ⟨Nat.zero_le _, Nat.zero_le _⟩ (fun H locs hW => ?_)
      obtain ⟨s15, h15, hf⟩ := g_bnd hf
      refine gs_iast (ws' := w_X8_renew cI cZ cJ a_t a_t_now a_t_anew a_t_table a_t_met a_t_any a_t_number a_t_parameters a_t_length a_t_newLength a_t_first a_t_inputs a_t_outAny a_t_out a_t_at a_t_in a_t_back a_t_register a_t_output a_t_calls a_t_latest a_t_differ t_code t_own t_count t_tableSize t_given t_known t_news t_depth t_steps t_taken t_shown t_outcome t_now s15 t_table t_met t_any t_number) hC hW 2 h15 rfl rfl dX8_renew_178 (fun H locs hW => ?_)
      refine lv_iinc (v := x6 + 1) (lv' := [(6, .int (x6 + 1)), (7, .int z0), (0, .ref a_t), (3, .int x3), (4, .int x4), (5, .int x5)]) hx hb dX8_renew_179 hl (k := 5) rfl rfl (by decide) rfl (fun ls hl => ?_)
      refine lv_goto (tgt := 82) hx hb dX8_renew_182 (by decide) ?_
      exact hk82 _ _ _ _ _ _ hf _ _ _ hW (lv_sub hl [2, 3, 4, 5, 0] rfl)
def f_X8_renew_232 (N : Nat) (x1 : Int32) (x2 : Int32) (t_tableSize : Int32) (t_now : Nat → Int32) (t_table : Nat → Int32) (t_met : Nat → Int32) (t_any : Nat → Int32) (t_number : Nat → Int32) (x3 : Int32) (x5 : Int32) (t_anew : Nat → Int32) : Option (Nat → Int32) := if x5 = 11 then (g_rd 1152 t_anew (x3 + 2)).bind (fun v17 => (f_X8_isNumber v17).bind (fun o18 => if o18 = 0 then some t_anew else if t_tableSize = 0 then f_X8_renew_272 N x1 x2 t_tableSize t_now t_table t_met t_any t_number x3 0 x3 t_anew else f_X8_renew_272 N x1 x2 t_tableSize t_now t_table t_met t_any t_number x3 10 x3 t_anew)) else some t_anew
set_option maxHeartbeats 4000000 in
set_option maxRecDepth 100000 in
theorem b_X8_renew_232 {p : Program} {l : Launch} {e : Env} {s : State} {m : MethodId} {args : Array Value} {below : List Frame} {meth : Method} {c : Code} {tA : Nat} {dC : Nat → ClassId} {dI : Nat → Nat → Nat} {cI cZ cJ : ClassId} {A : Nat → Prop} {a_t : Nat} {a_t_now : Nat} {a_t_anew : Nat} {a_t_table : Nat} {a_t_met : Nat} {a_t_any : Nat} {a_t_number : Nat} {a_t_parameters : Nat} {a_t_length : Nat} {a_t_newLength : Nat} {a_t_first : Nat} {a_t_inputs : Nat} {a_t_outAny : Nat} {a_t_out : Nat} {a_t_at : Nat} {a_t_in : Nat} {a_t_back : Nat} {a_t_register : Nat} {a_t_output : Nat} {a_t_calls : Nat} {a_t_latest : Nat} {a_t_differ : Nat} {x1 : Int32} {x2 : Int32} {t_tableSize : Int32} {t_now : Nat → Int32} {t_table : Nat → Int32} {t_met : Nat → Int32} {t_any : Nat → Int32} {t_number : Nat → Int32} {t_code : Int32} {t_own : Int32} {t_count : Int32} {t_given : Int32} {t_known : Int32} {t_news : Int32} {t_depth : Int32} {t_steps : Int32} {t_taken : Int32} {t_shown : Int32} {t_outcome : Int32} {N : Nat} {x3 : Int32} {x5 : Int32} {t_anew : Nat → Int32} {out : Nat → Int32} (hC : g_C p s m meth c args cX8_renew 8 (none : Option Jvm.ClassFile.FieldType) RX8) (hf : f_X8_renew_232 N x1 x2 t_tableSize t_now t_table t_met t_any t_number x3 x5 t_anew = some out) {H : Heap} {locs : List Loc} {ls : Array Slot} (hW : g_W tA dC dI cI cZ cJ A s H locs (w_X8_renew cI cZ cJ a_t a_t_now a_t_anew a_t_table a_t_met a_t_any a_t_number a_t_parameters a_t_length a_t_newLength a_t_first a_t_inputs a_t_outAny a_t_out a_t_at a_t_in a_t_back a_t_register a_t_output a_t_calls a_t_latest a_t_differ t_code t_own t_count t_tableSize t_given t_known t_news t_depth t_steps t_taken t_shown t_outcome t_now t_anew t_table t_met t_any t_number)) (hl : lv_has ls 8 [(0, .ref a_t), (3, .int x3), (5, .int x5)]) : W p l e r_X8_renew s m args below meth c H locs 0 0 (MQ below (g_Qv dC dI cI cZ cJ A (w_X8_renew cI cZ cJ a_t a_t_now a_t_anew a_t_table a_t_met a_t_any a_t_number a_t_parameters a_t_length a_t_newLength a_t_first a_t_inputs a_t_outAny a_t_out a_t_at a_t_in a_t_back a_t_register a_t_output a_t_calls a_t_latest a_t_differ t_code t_own t_count t_tableSize t_given t_known t_news t_depth t_steps t_taken t_shown t_outcome t_now out t_table t_met t_any t_number)) args s 0 0 A) (F0 m 232 ls []) := by
  have hx := hC.1
  have hb := hC.2.1
  have hown := hC.2.2.2.2.1
  have hts := hC.2.2.2.2.2.1
  unfold f_X8_renew_232 at hf
  refine lv_iload hx hb dX8_renew_232 (lv_at hl 2 rfl) ?_
  refine lv_bipush (v := 11) hx hb dX8_renew_234 (by decide) ?_
  refine lv_icmp_ne (tgt := 253) hx hb dX8_renew_236 (by decide) (fun c16 => ?_) (fun c16 => ?_)
  · replace hf := (if_neg c16).symm.trans hf
    obtain rfl := Option.some.inj hf
    exact gs_rv hC hW rfl dX8_renew_253
  · replace hf := (if_pos c16).symm.trans hf
    refine lv_aload_n hx hb dX8_renew_239 rfl (lv_at hl 0 rfl) ?_
    refine gs_get hC hW in_X8 0 8 rfl rfl (by decide) fl_X8_25 rfl dX8_renew_240 ?_
    refine lv_iload_n hx hb dX8_renew_243 rfl (lv_at hl 1 rfl) ?_
    refine lv_iconst (v := 2) hx hb dX8_renew_244 (by decide) ?_
    refine lv_iadd hx hb dX8_renew_245 ?_
    obtain ⟨v17, h17, hf⟩ := g_bnd hf
    refine gs_iald hC hW 2 h17 rfl dX8_renew_246 ?_
    obtain ⟨o18, h18, hf⟩ := g_bnd hf
    refine gs_callSi (ws' := w_X8_renew cI cZ cJ a_t a_t_now a_t_anew a_t_table a_t_met a_t_any a_t_number a_t_parameters a_t_length a_t_newLength a_t_first a_t_inputs a_t_outAny a_t_out a_t_at a_t_in a_t_back a_t_register a_t_output a_t_calls a_t_latest a_t_differ t_code t_own t_count t_tableSize t_given t_known t_news t_depth t_steps t_taken t_shown t_outcome t_now t_anew t_table t_met t_any t_number) hC hW (k_X8_isNumber l tA dC dI cI cZ cJ v17 _ h18) yk_X8_isNumber lk_X8_112 is_X8_isNumber ⟨rfl, rfl⟩ ⟨Nat.le_of_ble_eq_true rfl, Nat.le_of_ble_eq_true rfl⟩ hl.1 [] [0, 1, 2, 3, 4, 5, 6] [0, 1, 2, 3, 4, 5, 6] rfl rfl rfl rfl (by decide) rfl rfl rfl rfl (Nat.le_of_ble_eq_true rfl) dX8_renew_247 ⟨Nat.zero_le _, Nat.zero_le _⟩ (fun H locs hW => ?_)
    refine lv_if_ne (tgt := 254) hx hb dX8_renew_250 (by decide) (fun c19 => ?_) (fun c19 => ?_)
    · replace hf := (if_neg c19).symm.trans hf
      refine lv_aload_n hx hb dX8_renew_254 rfl (lv_at hl 0 rfl) ?_
      refine gs_get hC hW in_X8 0 8 rfl rfl (by decide) fl_X8_25 rfl dX8_renew_255 ?_
      refine lv_iload_n hx hb dX8_renew_258 rfl (lv_at hl 1 rfl) ?_
      refine lv_aload_n hx hb dX8_renew_259 rfl (lv_at hl 0 rfl) ?_
      refine gs_get hC hW in_X8 0 9 rfl rfl (by decide) fl_X8_106 rfl dX8_renew_260 ?_
      refine lv_if_ne (tgt := 270) hx hb dX8_renew_263 (by decide) (fun c20 => ?_) (fun c20 => ?_)
      · replace hf := (if_neg c20).symm.trans hf
        refine lv_bipush (v := 10) hx hb dX8_renew_270 (by decide) ?_
        exact b_X8_renew_272 hC hf hW (lv_sub hl [0, 1] rfl)
      · replace hf := (if_pos c20).symm.trans hf
        refine lv_iconst (v := 0) hx hb dX8_renew_266 (by decide) ?_
        refine lv_goto (tgt := 272) hx hb dX8_renew_267 (by decide) ?_
        exact b_X8_renew_272 hC hf hW (lv_sub hl [0, 1] rfl)
    · replace hf := (if_pos c19).symm.trans hf
      obtain rfl := Option.some.inj hf
      exact gs_rv hC hW rfl dX8_renew_253
def f_X8_renew_82 (N : Nat) (x1 : Int32) (x2 : Int32) (t_tableSize : Int32) (t_now : Nat → Int32) (t_table : Nat → Int32) (t_met : Nat → Int32) (t_any : Nat → Int32) (t_number : Nat → Int32) : Nat → Int32 → Int32 → Int32 → Int32 → (Nat → Int32) → Option (Nat → Int32)
  | 0, _, _, _, _, _ => none
  | n + 1, x3, x4, x5, x6, t_anew => if 6 ≤ x6 then if x5 = 7 then (g_rd 1152 t_anew (x3 + 3)).bind (fun v23 => (f_X8_isNumber v23).bind (fun o24 => if o24 = 0 then f_X8_renew_232 N x1 x2 t_tableSize t_now t_table t_met t_any t_number x3 x5 t_anew else (g_rd 1152 t_anew (x3 + 3)).bind (fun v26 => if (v26 >>> (3 &&& 31)) = 0 then (g_wr 1152 t_anew x3 12).bind (fun s28 => f_X8_renew_232 N x1 x2 t_tableSize t_now t_table t_met t_any t_number x3 x5 s28) else (g_wr 1152 t_anew x3 8).bind (fun s29 => f_X8_renew_232 N x1 x2 t_tableSize t_now t_table t_met t_any t_number x3 x5 s29)))) else f_X8_renew_232 N x1 x2 t_tableSize t_now t_table t_met t_any t_number x3 x5 t_anew else if x6 = 2 then if x5 = 11 then f_X8_renew_127 N (f_X8_renew_82 N x1 x2 t_tableSize t_now t_table t_met t_any t_number n) x1 x2 t_tableSize t_now t_table t_met t_any t_number x3 x4 x5 x6 1 t_anew else f_X8_renew_127 N (f_X8_renew_82 N x1 x2 t_tableSize t_now t_table t_met t_any t_number n) x1 x2 t_tableSize t_now t_table t_met t_any t_number x3 x4 x5 x6 0 t_anew else (f_X8_uses x5).bind (fun o31 => if o31 ≤ (x6 - 3) then f_X8_renew_127 N (f_X8_renew_82 N x1 x2 t_tableSize t_now t_table t_met t_any t_number n) x1 x2 t_tableSize t_now t_table t_met t_any t_number x3 x4 x5 x6 0 t_anew else f_X8_renew_127 N (f_X8_renew_82 N x1 x2 t_tableSize t_now t_table t_met t_any t_number n) x1 x2 t_tableSize t_now t_table t_met t_any t_number x3 x4 x5 x6 1 t_anew)
set_option maxHeartbeats 4000000 in
set_option maxRecDepth 100000 in
theorem b_X8_renew_82 {p : Program} {l : Launch} {e : Env} {s : State} {m : MethodId} {args : Array Value} {below : List Frame} {meth : Method} {c : Code} {tA : Nat} {dC : Nat → ClassId} {dI : Nat → Nat → Nat} {cI cZ cJ : ClassId} {A : Nat → Prop} {a_t : Nat} {a_t_now : Nat} {a_t_anew : Nat} {a_t_table : Nat} {a_t_met : Nat} {a_t_any : Nat} {a_t_number : Nat} {a_t_parameters : Nat} {a_t_length : Nat} {a_t_newLength : Nat} {a_t_first : Nat} {a_t_inputs : Nat} {a_t_outAny : Nat} {a_t_out : Nat} {a_t_at : Nat} {a_t_in : Nat} {a_t_back : Nat} {a_t_register : Nat} {a_t_output : Nat} {a_t_calls : Nat} {a_t_latest : Nat} {a_t_differ : Nat} {x1 : Int32} {x2 : Int32} {t_tableSize : Int32} {t_now : Nat → Int32} {t_table : Nat → Int32} {t_met : Nat → Int32} {t_any : Nat → Int32} {t_number : Nat → Int32} {t_code : Int32} {t_own : Int32} {t_count : Int32} {t_given : Int32} {t_known : Int32} {t_news : Int32} {t_depth : Int32} {t_steps : Int32} {t_taken : Int32} {t_shown : Int32} {t_outcome : Int32} {N : Nat} (hC : g_C p s m meth c args cX8_renew 8 (none : Option Jvm.ClassFile.FieldType) RX8) :
    ∀ (n : Nat) (x3 : Int32) (x4 : Int32) (x5 : Int32) (x6 : Int32) (t_anew : Nat → Int32) (out : Nat → Int32), f_X8_renew_82 N x1 x2 t_tableSize t_now t_table t_met t_any t_number n x3 x4 x5 x6 t_anew = some out → ∀ (H : Heap) (locs : List Loc) (ls : Array Slot), g_W tA dC dI cI cZ cJ A s H locs (w_X8_renew cI cZ cJ a_t a_t_now a_t_anew a_t_table a_t_met a_t_any a_t_number a_t_parameters a_t_length a_t_newLength a_t_first a_t_inputs a_t_outAny a_t_out a_t_at a_t_in a_t_back a_t_register a_t_output a_t_calls a_t_latest a_t_differ t_code t_own t_count t_tableSize t_given t_known t_news t_depth t_steps t_taken t_shown t_outcome t_now t_anew t_table t_met t_any t_number) → lv_has ls 8 [(0, .ref a_t), (3, .int x3), (4, .int x4), (5, .int x5), (6, .int x6)] → W p l e r_X8_renew s m args below meth c H locs 0 0 (MQ below (g_Qv dC dI cI cZ cJ A (w_X8_renew cI cZ cJ a_t a_t_now a_t_anew a_t_table a_t_met a_t_any a_t_number a_t_parameters a_t_length a_t_newLength a_t_first a_t_inputs a_t_outAny a_t_out a_t_at a_t_in a_t_back a_t_register a_t_output a_t_calls a_t_latest a_t_differ t_code t_own t_count t_tableSize t_given t_known t_news t_depth t_steps t_taken t_shown t_outcome t_now out t_table t_met t_any t_number)) args s 0 0 A) (F0 m 82 ls []) := by
  have hx := hC.1
  have hb := hC.2.1
  have hown := hC.2.2.2.2.1
  have hts := hC.2.2.2.2.2.1
  intro n
  induction n with
  | zero =>
    intro x3 x4 x5 x6 t_anew out hf
    exact g_no hf
  | succ n ih =>
    intro x3 x4 x5 x6 t_anew out hf H locs ls hW hl
    refine lv_iload hx hb dX8_renew_82 (lv_at hl 4 rfl) ?_
    refine lv_bipush (v := 6) hx hb dX8_renew_84 (by decide) ?_
    refine lv_icmp_ge (tgt := 185) hx hb dX8_renew_86 (by decide) (fun c21 => ?_) (fun c21 => ?_)
    · replace hf := (if_pos c21).symm.trans hf
      refine lv_iload hx hb dX8_renew_185 (lv_at hl 3 rfl) ?_
      refine lv_bipush (v := 7) hx hb dX8_renew_187 (by decide) ?_
      refine lv_icmp_ne (tgt := 232) hx hb dX8_renew_189 (by decide) (fun c22 => ?_) (fun c22 => ?_)
      · replace hf := (if_neg c22).symm.trans hf
        exact b_X8_renew_232 hC hf hW (lv_sub hl [0, 1, 3] rfl)
      · replace hf := (if_pos c22).symm.trans hf
        refine lv_aload_n hx hb dX8_renew_192 rfl (lv_at hl 0 rfl) ?_
        refine gs_get hC hW in_X8 0 8 rfl rfl (by decide) fl_X8_25 rfl dX8_renew_193 ?_
        refine lv_iload_n hx hb dX8_renew_196 rfl (lv_at hl 1 rfl) ?_
        refine lv_iconst (v := 3) hx hb dX8_renew_197 (by decide) ?_
        refine lv_iadd hx hb dX8_renew_198 ?_
        obtain ⟨v23, h23, hf⟩ := g_bnd hf
        refine gs_iald hC hW 2 h23 rfl dX8_renew_199 ?_
        obtain ⟨o24, h24, hf⟩ := g_bnd hf
        refine gs_callSi (ws' := w_X8_renew cI cZ cJ a_t a_t_now a_t_anew a_t_table a_t_met a_t_any a_t_number a_t_parameters a_t_length a_t_newLength a_t_first a_t_inputs a_t_outAny a_t_out a_t_at a_t_in a_t_back a_t_register a_t_output a_t_calls a_t_latest a_t_differ t_code t_own t_count t_tableSize t_given t_known t_news t_depth t_steps t_taken t_shown t_outcome t_now t_anew t_table t_met t_any t_number) hC hW (k_X8_isNumber l tA dC dI cI cZ cJ v23 _ h24) yk_X8_isNumber lk_X8_112 is_X8_isNumber ⟨rfl, rfl⟩ ⟨Nat.le_of_ble_eq_true rfl, Nat.le_of_ble_eq_true rfl⟩ hl.1 [] [0, 1, 2, 3, 4, 5, 6] [0, 1, 2, 3, 4, 5, 6] rfl rfl rfl rfl (by decide) rfl rfl rfl rfl (Nat.le_of_ble_eq_true rfl) dX8_renew_200 ⟨Nat.zero_le _, Nat.zero_le _⟩ (fun H locs hW => ?_)
        refine lv_if_eq (tgt := 232) hx hb dX8_renew_203 (by decide) (fun c25 => ?_) (fun c25 => ?_)
        · replace hf := (if_pos c25).symm.trans hf
          exact b_X8_renew_232 hC hf hW (lv_sub hl [0, 1, 3] rfl)
        · replace hf := (if_neg c25).symm.trans hf
          refine lv_aload_n hx hb dX8_renew_206 rfl (lv_at hl 0 rfl) ?_
          refine gs_get hC hW in_X8 0 8 rfl rfl (by decide) fl_X8_25 rfl dX8_renew_207 ?_
          refine lv_iload_n hx hb dX8_renew_210 rfl (lv_at hl 1 rfl) ?_
          refine lv_aload_n hx hb dX8_renew_211 rfl (lv_at hl 0 rfl) ?_
          refine gs_get hC hW in_X8 0 8 rfl rfl (by decide) fl_X8_25 rfl dX8_renew_212 ?_
          refine lv_iload_n hx hb dX8_renew_215 rfl (lv_at hl 1 rfl) ?_
          refine lv_iconst (v := 3) hx hb dX8_renew_216 (by decide) ?_
          refine lv_iadd hx hb dX8_renew_217 ?_
          obtain ⟨v26, h26, hf⟩ := g_bnd hf
          refine gs_iald hC hW 2 h26 rfl dX8_renew_218 ?_
          refine lv_iconst (v := 3) hx hb dX8_renew_219 (by decide) ?_
          refine lv_ishr hx hb dX8_renew_220 ?_
          refine lv_if_eq (tgt := 229) hx hb dX8_renew_221 (by decide) (fun c27 => ?_) (fun c27 => ?_)
          · replace hf := (if_pos c27).symm.trans hf
            refine lv_bipush (v := 12) hx hb dX8_renew_229 (by decide) ?_
            obtain ⟨s28, h28, hf⟩ := g_bnd hf
            refine gs_iast (ws' := w_X8_renew cI cZ cJ a_t a_t_now a_t_anew a_t_table a_t_met a_t_any a_t_number a_t_parameters a_t_length a_t_newLength a_t_first a_t_inputs a_t_outAny a_t_out a_t_at a_t_in a_t_back a_t_register a_t_output a_t_calls a_t_latest a_t_differ t_code t_own t_count t_tableSize t_given t_known t_news t_depth t_steps t_taken t_shown t_outcome t_now s28 t_table t_met t_any t_number) hC hW 2 h28 rfl rfl dX8_renew_231 (fun H locs hW => ?_)
            exact b_X8_renew_232 hC hf hW (lv_sub hl [0, 1, 3] rfl)
          · replace hf := (if_neg c27).symm.trans hf
            refine lv_bipush (v := 8) hx hb dX8_renew_224 (by decide) ?_
            refine lv_goto (tgt := 231) hx hb dX8_renew_226 (by decide) ?_
            obtain ⟨s29, h29, hf⟩ := g_bnd hf
            refine gs_iast (ws' := w_X8_renew cI cZ cJ a_t a_t_now a_t_anew a_t_table a_t_met a_t_any a_t_number a_t_parameters a_t_length a_t_newLength a_t_first a_t_inputs a_t_outAny a_t_out a_t_at a_t_in a_t_back a_t_register a_t_output a_t_calls a_t_latest a_t_differ t_code t_own t_count t_tableSize t_given t_known t_news t_depth t_steps t_taken t_shown t_outcome t_now s29 t_table t_met t_any t_number) hC hW 2 h29 rfl rfl dX8_renew_231 (fun H locs hW => ?_)
            exact b_X8_renew_232 hC hf hW (lv_sub hl [0, 1, 3] rfl)
    · replace hf := (if_neg c21).symm.trans hf
      refine lv_iload hx hb dX8_renew_89 (lv_at hl 4 rfl) ?_
      refine lv_iconst (v := 2) hx hb dX8_renew_91 (by decide) ?_
      refine lv_icmp_ne (tgt := 110) hx hb dX8_renew_92 (by decide) (fun c30 => ?_) (fun c30 => ?_)
      · replace hf := (if_neg c30).symm.trans hf
        refine lv_iload hx hb dX8_renew_110 (lv_at hl 4 rfl) ?_
        refine lv_iconst (v := 3) hx hb dX8_renew_112 (by decide) ?_
        refine lv_isub hx hb dX8_renew_113 ?_
        refine lv_iload hx hb dX8_renew_114 (lv_at hl 3 rfl) ?_
        obtain ⟨o31, h31, hf⟩ := g_bnd hf
        refine gs_callSi (ws' := w_X8_renew cI cZ cJ a_t a_t_now a_t_anew a_t_table a_t_met a_t_any a_t_number a_t_parameters a_t_length a_t_newLength a_t_first a_t_inputs a_t_outAny a_t_out a_t_at a_t_in a_t_back a_t_register a_t_output a_t_calls a_t_latest a_t_differ t_code t_own t_count t_tableSize t_given t_known t_news t_depth t_steps t_taken t_shown t_outcome t_now t_anew t_table t_met t_any t_number) hC hW (k_X8_uses l tA dC dI cI cZ cJ x5 _ h31) yk_X8_uses lk_X8_91 is_X8_uses ⟨rfl, rfl⟩ ⟨Nat.le_of_ble_eq_true rfl, Nat.le_of_ble_eq_true rfl⟩ hl.1 [] [0, 1, 2, 3, 4, 5, 6] [0, 1, 2, 3, 4, 5, 6] rfl rfl rfl rfl (by decide) rfl rfl rfl rfl (Nat.le_of_ble_eq_true rfl) dX8_renew_116 ⟨Nat.zero_le _, Nat.zero_le _⟩ (fun H locs hW => ?_)
        refine lv_icmp_ge (tgt := 126) hx hb dX8_renew_119 (by decide) (fun c32 => ?_) (fun c32 => ?_)
        · replace hf := (if_pos c32).symm.trans hf
          refine lv_iconst (v := 0) hx hb dX8_renew_126 (by decide) ?_
          exact b_X8_renew_127 hC ih hf hW (lv_sub hl [0, 1, 2, 3, 4] rfl)
        · replace hf := (if_neg c32).symm.trans hf
          refine lv_iconst (v := 1) hx hb dX8_renew_122 (by decide) ?_
          refine lv_goto (tgt := 127) hx hb dX8_renew_123 (by decide) ?_
          exact b_X8_renew_127 hC ih hf hW (lv_sub hl [0, 1, 2, 3, 4] rfl)
      · replace hf := (if_pos c30).symm.trans hf
        refine lv_iload hx hb dX8_renew_95 (lv_at hl 3 rfl) ?_
        refine lv_bipush (v := 11) hx hb dX8_renew_97 (by decide) ?_
        refine lv_icmp_ne (tgt := 106) hx hb dX8_renew_99 (by decide) (fun c33 => ?_) (fun c33 => ?_)
        · replace hf := (if_neg c33).symm.trans hf
          refine lv_iconst (v := 0) hx hb dX8_renew_106 (by decide) ?_
          refine lv_goto (tgt := 127) hx hb dX8_renew_107 (by decide) ?_
          exact b_X8_renew_127 hC ih hf hW (lv_sub hl [0, 1, 2, 3, 4] rfl)
        · replace hf := (if_pos c33).symm.trans hf
          refine lv_iconst (v := 1) hx hb dX8_renew_102 (by decide) ?_
          refine lv_goto (tgt := 127) hx hb dX8_renew_103 (by decide) ?_
          exact b_X8_renew_127 hC ih hf hW (lv_sub hl [0, 1, 2, 3, 4] rfl)
def f_X8_renew_21 (N : Nat) (x1 : Int32) (x2 : Int32) (t_tableSize : Int32) (t_now : Nat → Int32) (t_table : Nat → Int32) (t_met : Nat → Int32) (t_any : Nat → Int32) (t_number : Nat → Int32) : Nat → Int32 → Int32 → Int32 → (Nat → Int32) → Option (Nat → Int32)
  | 0, _, _, _, _ => none
  | n + 1, x3, x4, x5, t_anew => if 6 ≤ x5 then (g_rd 1152 t_now x3).bind (fun v35 => (g_rd 204 t_met x4).bind (fun v36 => if v36 = 0 then (g_wr 1152 t_anew x3 12).bind (fun s38 => some s38) else f_X8_renew_82 N x1 x2 t_tableSize t_now t_table t_met t_any t_number N x3 x4 v35 2 t_anew)) else (g_rd 1152 t_now (x3 + x5)).bind (fun v39 => (g_wr 1152 t_anew (x3 + x5) v39).bind (fun s40 => f_X8_renew_21 N x1 x2 t_tableSize t_now t_table t_met t_any t_number n x3 x4 (x5 + 1) s40))
set_option maxHeartbeats 4000000 in
set_option maxRecDepth 100000 in
theorem b_X8_renew_21 {p : Program} {l : Launch} {e : Env} {s : State} {m : MethodId} {args : Array Value} {below : List Frame} {meth : Method} {c : Code} {tA : Nat} {dC : Nat → ClassId} {dI : Nat → Nat → Nat} {cI cZ cJ : ClassId} {A : Nat → Prop} {a_t : Nat} {a_t_now : Nat} {a_t_anew : Nat} {a_t_table : Nat} {a_t_met : Nat} {a_t_any : Nat} {a_t_number : Nat} {a_t_parameters : Nat} {a_t_length : Nat} {a_t_newLength : Nat} {a_t_first : Nat} {a_t_inputs : Nat} {a_t_outAny : Nat} {a_t_out : Nat} {a_t_at : Nat} {a_t_in : Nat} {a_t_back : Nat} {a_t_register : Nat} {a_t_output : Nat} {a_t_calls : Nat} {a_t_latest : Nat} {a_t_differ : Nat} {x1 : Int32} {x2 : Int32} {t_tableSize : Int32} {t_now : Nat → Int32} {t_table : Nat → Int32} {t_met : Nat → Int32} {t_any : Nat → Int32} {t_number : Nat → Int32} {t_code : Int32} {t_own : Int32} {t_count : Int32} {t_given : Int32} {t_known : Int32} {t_news : Int32} {t_depth : Int32} {t_steps : Int32} {t_taken : Int32} {t_shown : Int32} {t_outcome : Int32} {N : Nat} (hC : g_C p s m meth c args cX8_renew 8 (none : Option Jvm.ClassFile.FieldType) RX8) :
    ∀ (n : Nat) (x3 : Int32) (x4 : Int32) (x5 : Int32) (t_anew : Nat → Int32) (out : Nat → Int32), f_X8_renew_21 N x1 x2 t_tableSize t_now t_table t_met t_any t_number n x3 x4 x5 t_anew = some out → ∀ (H : Heap) (locs : List Loc) (ls : Array Slot), g_W tA dC dI cI cZ cJ A s H locs (w_X8_renew cI cZ cJ a_t a_t_now a_t_anew a_t_table a_t_met a_t_any a_t_number a_t_parameters a_t_length a_t_newLength a_t_first a_t_inputs a_t_outAny a_t_out a_t_at a_t_in a_t_back a_t_register a_t_output a_t_calls a_t_latest a_t_differ t_code t_own t_count t_tableSize t_given t_known t_news t_depth t_steps t_taken t_shown t_outcome t_now t_anew t_table t_met t_any t_number) → lv_has ls 8 [(0, .ref a_t), (3, .int x3), (4, .int x4), (5, .int x5)] → W p l e r_X8_renew s m args below meth c H locs 0 0 (MQ below (g_Qv dC dI cI cZ cJ A (w_X8_renew cI cZ cJ a_t a_t_now a_t_anew a_t_table a_t_met a_t_any a_t_number a_t_parameters a_t_length a_t_newLength a_t_first a_t_inputs a_t_outAny a_t_out a_t_at a_t_in a_t_back a_t_register a_t_output a_t_calls a_t_latest a_t_differ t_code t_own t_count t_tableSize t_given t_known t_news t_depth t_steps t_taken t_shown t_outcome t_now out t_table t_met t_any t_number)) args s 0 0 A) (F0 m 21 ls []) := by
  have hx := hC.1
  have hb := hC.2.1
  have hown := hC.2.2.2.2.1
  have hts := hC.2.2.2.2.2.1
  intro n
  induction n with
  | zero =>
    intro x3 x4 x5 t_anew out hf
    exact g_no hf
  | succ n ih =>
    intro x3 x4 x5 t_anew out hf H locs ls hW hl
    refine lv_iload hx hb dX8_renew_21 (lv_at hl 3 rfl) ?_
    refine lv_bipush (v := 6) hx hb dX8_renew_23 (by decide) ?_
    refine lv_icmp_ge (tgt := 52) hx hb dX8_renew_25 (by decide) (fun c34 => ?_) (fun c34 => ?_)
    · replace hf := (if_pos c34).symm.trans hf
      refine lv_aload_n hx hb dX8_renew_52 rfl (lv_at hl 0 rfl) ?_
      refine gs_get hC hW in_X8 0 7 rfl rfl (by decide) fl_X8_22 rfl dX8_renew_53 ?_
      refine lv_iload_n hx hb dX8_renew_56 rfl (lv_at hl 1 rfl) ?_
      obtain ⟨v35, h35, hf⟩ := g_bnd hf
      refine gs_iald hC hW 1 h35 rfl dX8_renew_57 ?_
      refine lv_istore (lv' := [(5, .int v35), (0, .ref a_t), (3, .int x3), (4, .int x4)]) hx hb dX8_renew_58 hl (by decide) rfl (fun ls hl => ?_)
      refine lv_aload_n hx hb dX8_renew_60 rfl (lv_at hl 1 rfl) ?_
      refine gs_get hC hW in_X8 0 14 rfl rfl (by decide) fl_X8_34 rfl dX8_renew_61 ?_
      refine lv_iload hx hb dX8_renew_64 (lv_at hl 3 rfl) ?_
      obtain ⟨v36, h36, hf⟩ := g_bnd hf
      refine gs_zald hC hW 4 h36 rfl dX8_renew_66 ?_
      refine lv_if_ne (tgt := 79) hx hb dX8_renew_67 (by decide) (fun c37 => ?_) (fun c37 => ?_)
      · replace hf := (if_neg c37).symm.trans hf
        refine lv_iconst (v := 2) hx hb dX8_renew_79 (by decide) ?_
        refine lv_istore (lv' := [(6, .int 2), (5, .int v35), (0, .ref a_t), (3, .int x3), (4, .int x4)]) hx hb dX8_renew_80 hl (by decide) rfl (fun ls hl => ?_)
        exact b_X8_renew_82 hC N _ _ _ _ _ _ hf _ _ _ hW (lv_sub hl [2, 3, 4, 1, 0] rfl)
      · replace hf := (if_pos c37).symm.trans hf
        refine lv_aload_n hx hb dX8_renew_70 rfl (lv_at hl 1 rfl) ?_
        refine gs_get hC hW in_X8 0 8 rfl rfl (by decide) fl_X8_25 rfl dX8_renew_71 ?_
        refine lv_iload_n hx hb dX8_renew_74 rfl (lv_at hl 2 rfl) ?_
        refine lv_bipush (v := 12) hx hb dX8_renew_75 (by decide) ?_
        obtain ⟨s38, h38, hf⟩ := g_bnd hf
        refine gs_iast (ws' := w_X8_renew cI cZ cJ a_t a_t_now a_t_anew a_t_table a_t_met a_t_any a_t_number a_t_parameters a_t_length a_t_newLength a_t_first a_t_inputs a_t_outAny a_t_out a_t_at a_t_in a_t_back a_t_register a_t_output a_t_calls a_t_latest a_t_differ t_code t_own t_count t_tableSize t_given t_known t_news t_depth t_steps t_taken t_shown t_outcome t_now s38 t_table t_met t_any t_number) hC hW 2 h38 rfl rfl dX8_renew_77 (fun H locs hW => ?_)
        obtain rfl := Option.some.inj hf
        exact gs_rv hC hW rfl dX8_renew_78
    · replace hf := (if_neg c34).symm.trans hf
      refine lv_aload_n hx hb dX8_renew_28 rfl (lv_at hl 0 rfl) ?_
      refine gs_get hC hW in_X8 0 8 rfl rfl (by decide) fl_X8_25 rfl dX8_renew_29 ?_
      refine lv_iload_n hx hb dX8_renew_32 rfl (lv_at hl 1 rfl) ?_
      refine lv_iload hx hb dX8_renew_33 (lv_at hl 3 rfl) ?_
      refine lv_iadd hx hb dX8_renew_35 ?_
      refine lv_aload_n hx hb dX8_renew_36 rfl (lv_at hl 0 rfl) ?_
      refine gs_get hC hW in_X8 0 7 rfl rfl (by decide) fl_X8_22 rfl dX8_renew_37 ?_
      refine lv_iload_n hx hb dX8_renew_40 rfl (lv_at hl 1 rfl) ?_
      refine lv_iload hx hb dX8_renew_41 (lv_at hl 3 rfl) ?_
      refine lv_iadd hx hb dX8_renew_43 ?_
      obtain ⟨v39, h39, hf⟩ := g_bnd hf
      refine gs_iald hC hW 1 h39 rfl dX8_renew_44 ?_
      obtain ⟨s40, h40, hf⟩ := g_bnd hf
      refine gs_iast (ws' := w_X8_renew cI cZ cJ a_t a_t_now a_t_anew a_t_table a_t_met a_t_any a_t_number a_t_parameters a_t_length a_t_newLength a_t_first a_t_inputs a_t_outAny a_t_out a_t_at a_t_in a_t_back a_t_register a_t_output a_t_calls a_t_latest a_t_differ t_code t_own t_count t_tableSize t_given t_known t_news t_depth t_steps t_taken t_shown t_outcome t_now s40 t_table t_met t_any t_number) hC hW 2 h40 rfl rfl dX8_renew_45 (fun H locs hW => ?_)
      refine lv_iinc (v := x5 + 1) (lv' := [(5, .int (x5 + 1)), (0, .ref a_t), (3, .int x3), (4, .int x4)]) hx hb dX8_renew_46 hl (k := 3) rfl rfl (by decide) rfl (fun ls hl => ?_)
      refine lv_goto (tgt := 21) hx hb dX8_renew_49 (by decide) ?_
      exact ih _ _ _ _ _ hf _ _ _ hW (lv_sub hl [1, 2, 3, 0] rfl)
def f_X8_renew (N : Nat) (x1 : Int32) (x2 : Int32) (t_tableSize : Int32) (t_now : Nat → Int32) (t_anew : Nat → Int32) (t_table : Nat → Int32) (t_met : Nat → Int32) (t_any : Nat → Int32) (t_number : Nat → Int32) : Option (Nat → Int32) := f_X8_renew_21 N x1 x2 t_tableSize t_now t_table t_met t_any t_number N ((96 * x1) + (6 * x2)) ((17 * x1) + x2) 0 t_anew
set_option maxHeartbeats 4000000 in
set_option maxRecDepth 100000 in
theorem k_X8_renew (l : Launch) (tA : Nat) (dC : Nat → ClassId) (dI : Nat → Nat → Nat) (cI cZ cJ : ClassId) (a_t : Nat) (a_t_now : Nat) (a_t_anew : Nat) (a_t_table : Nat) (a_t_met : Nat) (a_t_any : Nat) (a_t_number : Nat) (a_t_parameters : Nat) (a_t_length : Nat) (a_t_newLength : Nat) (a_t_first : Nat) (a_t_inputs : Nat) (a_t_outAny : Nat) (a_t_out : Nat) (a_t_at : Nat) (a_t_in : Nat) (a_t_back : Nat) (a_t_register : Nat) (a_t_output : Nat) (a_t_calls : Nat) (a_t_latest : Nat) (a_t_differ : Nat) (N : Nat) (x1 : Int32) (x2 : Int32) (t_code : Int32) (t_own : Int32) (t_count : Int32) (t_tableSize : Int32) (t_given : Int32) (t_known : Int32) (t_news : Int32) (t_depth : Int32) (t_steps : Int32) (t_taken : Int32) (t_shown : Int32) (t_outcome : Int32) (t_now : Nat → Int32) (t_anew : Nat → Int32) (t_table : Nat → Int32) (t_met : Nat → Int32) (t_any : Nat → Int32) (t_number : Nat → Int32) (out : Nat → Int32) (hf : f_X8_renew N x1 x2 t_tableSize t_now t_anew t_table t_met t_any t_number = some out) : g_Mv l yX8_renew cX8_renew 8 (none : Option Jvm.ClassFile.FieldType) r_X8_renew tA dC dI cI cZ cJ [.ref a_t, .int x1, .int x2] (w_X8_renew cI cZ cJ a_t a_t_now a_t_anew a_t_table a_t_met a_t_any a_t_number a_t_parameters a_t_length a_t_newLength a_t_first a_t_inputs a_t_outAny a_t_out a_t_at a_t_in a_t_back a_t_register a_t_output a_t_calls a_t_latest a_t_differ t_code t_own t_count t_tableSize t_given t_known t_news t_depth t_steps t_taken t_shown t_outcome t_now t_anew t_table t_met t_any t_number) (w_X8_renew cI cZ cJ a_t a_t_now a_t_anew a_t_table a_t_met a_t_any a_t_number a_t_parameters a_t_length a_t_newLength a_t_first a_t_inputs a_t_outAny a_t_out a_t_at a_t_in a_t_back a_t_register a_t_output a_t_calls a_t_latest a_t_differ t_code t_own t_count t_tableSize t_given t_known t_news t_depth t_steps t_taken t_shown t_outcome t_now out t_table t_met t_any t_number) := by
  unfold f_X8_renew at hf
  refine ge_v (by decide) (Nat.le_of_ble_eq_true rfl) (fun p e s m below meth c A H locs ls hC hW hl => ?_)
  have hC : g_C p s m meth c _ cX8_renew 8 (none : Option Jvm.ClassFile.FieldType) RX8 := hC
  have hx := hC.1
  have hb := hC.2.1
  have hown := hC.2.2.2.2.1
  have hts := hC.2.2.2.2.2.1
  have hl : lv_has ls 8 [(0, .ref a_t), (1, .int x1), (2, .int x2)] := hl
  refine lv_bipush (v := 96) hx hb dX8_renew_0 (by decide) ?_
  refine lv_iload_n hx hb dX8_renew_2 rfl (lv_at hl 1 rfl) ?_
  refine lv_imul hx hb dX8_renew_3 ?_
  refine lv_bipush (v := 6) hx hb dX8_renew_4 (by decide) ?_
  refine lv_iload_n hx hb dX8_renew_6 rfl (lv_at hl 2 rfl) ?_
  refine lv_imul hx hb dX8_renew_7 ?_
  refine lv_iadd hx hb dX8_renew_8 ?_
  refine lv_istore_n (lv' := [(3, .int ((96 * x1) + (6 * x2))), (0, .ref a_t), (1, .int x1), (2, .int x2)]) hx hb dX8_renew_9 rfl hl (by decide) rfl (fun ls hl => ?_)
  refine lv_bipush (v := 17) hx hb dX8_renew_10 (by decide) ?_
  refine lv_iload_n hx hb dX8_renew_12 rfl (lv_at hl 2 rfl) ?_
  refine lv_imul hx hb dX8_renew_13 ?_
  refine lv_iload_n hx hb dX8_renew_14 rfl (lv_at hl 3 rfl) ?_
  refine lv_iadd hx hb dX8_renew_15 ?_
  refine lv_istore (lv' := [(4, .int ((17 * x1) + x2)), (3, .int ((96 * x1) + (6 * x2))), (0, .ref a_t), (1, .int x1), (2, .int x2)]) hx hb dX8_renew_16 hl (by decide) rfl (fun ls hl => ?_)
  refine lv_iconst (v := 0) hx hb dX8_renew_18 (by decide) ?_
  refine lv_istore (lv' := [(5, .int 0), (4, .int ((17 * x1) + x2)), (3, .int ((96 * x1) + (6 * x2))), (0, .ref a_t), (1, .int x1), (2, .int x2)]) hx hb dX8_renew_19 hl (by decide) rfl (fun ls hl => ?_)
  exact b_X8_renew_21 hC N _ _ _ _ _ hf _ _ _ hW (lv_sub hl [3, 2, 1, 0] rfl)

abbrev w_X8_analyse (cI cZ cJ : ClassId) (a_t : Nat) (a_t_parameters : Nat) (a_t_length : Nat) (a_t_newLength : Nat) (a_t_first : Nat) (a_t_now : Nat) (a_t_anew : Nat) (a_t_table : Nat) (a_t_met : Nat) (a_t_any : Nat) (a_t_number : Nat) (a_t_outAny : Nat) (a_t_out : Nat) (a_t_inputs : Nat) (a_t_at : Nat) (a_t_in : Nat) (a_t_back : Nat) (a_t_register : Nat) (a_t_output : Nat) (a_t_calls : Nat) (a_t_latest : Nat) (a_t_differ : Nat) (t_code : Int32) (t_own : Int32) (t_count : Int32) (t_tableSize : Int32) (t_given : Int32) (t_known : Int32) (t_news : Int32) (t_depth : Int32) (t_steps : Int32) (t_taken : Int32) (t_shown : Int32) (t_outcome : Int32) (t_parameters : Nat → Int32) (t_length : Nat → Int32) (t_newLength : Nat → Int32) (t_first : Nat → Int32) (t_now : Nat → Int32) (t_anew : Nat → Int32) (t_table : Nat → Int32) (t_met : Nat → Int32) (t_any : Nat → Int32) (t_number : Nat → Int32) (t_outAny : Nat → Int32) (t_out : Nat → Int32) : va_W := [(a_t, .inr (8, [.int t_code, .int t_own, .int t_count, .ref a_t_parameters, .ref a_t_length, .ref a_t_newLength, .ref a_t_first, .ref a_t_now, .ref a_t_anew, .int t_tableSize, .ref a_t_table, .int t_given, .ref a_t_inputs, .int t_known, .ref a_t_met, .ref a_t_any, .ref a_t_number, .int t_news, .ref a_t_outAny, .ref a_t_out, .int t_depth, .int t_steps, .int t_taken, .int t_shown, .ref a_t_at, .ref a_t_in, .ref a_t_back, .ref a_t_register, .ref a_t_output, .ref a_t_calls, .ref a_t_latest, .ref a_t_differ, .int t_outcome])), (a_t_parameters, .inl (cI, 12, .inl t_parameters)), (a_t_length, .inl (cI, 12, .inl t_length)), (a_t_newLength, .inl (cI, 12, .inl t_newLength)), (a_t_first, .inl (cI, 576, .inl t_first)), (a_t_now, .inl (cI, 1152, .inl t_now)), (a_t_anew, .inl (cI, 1152, .inl t_anew)), (a_t_table, .inl (cI, 4, .inl t_table)), (a_t_met, .inl (cZ, 204, .inl t_met)), (a_t_any, .inl (cZ, 1224, .inl t_any)), (a_t_number, .inl (cI, 1224, .inl t_number)), (a_t_outAny, .inl (cZ, 6, .inl t_outAny)), (a_t_out, .inl (cI, 6, .inl t_out))]
abbrev r_X8_analyse : Room := { frames := 6, cells := 0, slots := 0, locals := 143 }
def f_X8_analyse_177 (N : Nat) (k118 : Int32 → Int32 → Int32 → Int32 → Int32 → Int32 → (Nat → Int32) → (Nat → Int32) → (Nat → Int32) → (Nat → Int32) → (Nat → Int32) → (Nat → Int32) → (Nat → Int32) → (Nat → Int32) → (Nat → Int32) → (Nat → Int32) → Option (Int32 × Int32 × Int32 × Int32 × Int32 × (Nat → Int32) × (Nat → Int32) × (Nat → Int32) × (Nat → Int32) × (Nat → Int32) × (Nat → Int32) × (Nat → Int32) × (Nat → Int32) × (Nat → Int32) × (Nat → Int32))) (x1 : Int32) (t_own : Int32) (t_tableSize : Int32) (t_first : Nat → Int32) (t_table : Nat → Int32) : Nat → Int32 → Int32 → Int32 → Int32 → Int32 → Int32 → Int32 → (Nat → Int32) → (Nat → Int32) → (Nat → Int32) → (Nat → Int32) → (Nat → Int32) → (Nat → Int32) → (Nat → Int32) → (Nat → Int32) → (Nat → Int32) → (Nat → Int32) → Option (Int32 × Int32 × Int32 × Int32 × Int32 × (Nat → Int32) × (Nat → Int32) × (Nat → Int32) × (Nat → Int32) × (Nat → Int32) × (Nat → Int32) × (Nat → Int32) × (Nat → Int32) × (Nat → Int32) × (Nat → Int32))
  | 0, _, _, _, _, _, _, _, _, _, _, _, _, _, _, _, _, _ => none
  | n + 1, x2, x3, x4, t_code, t_count, t_known, t_news, t_parameters, t_length, t_newLength, t_now, t_anew, t_met, t_any, t_number, t_outAny, t_out => (g_rd 12 t_newLength x3).bind (fun v1 => if v1 ≤ x4 then k118 x2 (x3 + 1) t_code t_count t_known t_news t_parameters t_length t_newLength t_now t_anew t_met t_any t_number t_outAny t_out else (f_X8_renew N x3 x4 t_tableSize t_now t_anew t_table t_met t_any t_number).bind (fun o3 => f_X8_analyse_177 N k118 x1 t_own t_tableSize t_first t_table n x2 x3 (x4 + 1) t_code t_count t_known t_news t_parameters t_length t_newLength t_now o3 t_met t_any t_number t_outAny t_out))
set_option maxHeartbeats 4000000 in
set_option maxRecDepth 100000 in
theorem b_X8_analyse_177 {p : Program} {l : Launch} {e : Env} {s : State} {m : MethodId} {args : Array Value} {below : List Frame} {meth : Method} {c : Code} {tA : Nat} {dC : Nat → ClassId} {dI : Nat → Nat → Nat} {cI cZ cJ : ClassId} {A : Nat → Prop} {a_t : Nat} {a_t_parameters : Nat} {a_t_length : Nat} {a_t_newLength : Nat} {a_t_first : Nat} {a_t_now : Nat} {a_t_anew : Nat} {a_t_table : Nat} {a_t_met : Nat} {a_t_any : Nat} {a_t_number : Nat} {a_t_outAny : Nat} {a_t_out : Nat} {a_t_inputs : Nat} {a_t_at : Nat} {a_t_in : Nat} {a_t_back : Nat} {a_t_register : Nat} {a_t_output : Nat} {a_t_calls : Nat} {a_t_latest : Nat} {a_t_differ : Nat} {x1 : Int32} {t_own : Int32} {t_tableSize : Int32} {t_first : Nat → Int32} {t_table : Nat → Int32} {t_given : Int32} {t_depth : Int32} {t_steps : Int32} {t_taken : Int32} {t_shown : Int32} {t_outcome : Int32} {N : Nat} {k118 : Int32 → Int32 → Int32 → Int32 → Int32 → Int32 → (Nat → Int32) → (Nat → Int32) → (Nat → Int32) → (Nat → Int32) → (Nat → Int32) → (Nat → Int32) → (Nat → Int32) → (Nat → Int32) → (Nat → Int32) → (Nat → Int32) → Option (Int32 × Int32 × Int32 × Int32 × Int32 × (Nat → Int32) × (Nat → Int32) × (Nat → Int32) × (Nat → Int32) × (Nat → Int32) × (Nat → Int32) × (Nat → Int32) × (Nat → Int32) × (Nat → Int32) × (Nat → Int32))} (hC : g_C p s m meth c args cX8_analyse 5 (some .int) RX8) (hk118 : ∀ (x2 : Int32) (x3 : Int32) (t_code : Int32) (t_count : Int32) (t_known : Int32) (t_news : Int32) (t_parameters : Nat → Int32) (t_length : Nat → Int32) (t_newLength : Nat → Int32) (t_now : Nat → Int32) (t_anew : Nat → Int32) (t_met : Nat → Int32) (t_any : Nat → Int32) (t_number : Nat → Int32) (t_outAny : Nat → Int32) (t_out : Nat → Int32) (out : Int32 × Int32 × Int32 × Int32 × Int32 × (Nat → Int32) × (Nat → Int32) × (Nat → Int32) × (Nat → Int32) × (Nat → Int32) × (Nat → Int32) × (Nat → Int32) × (Nat → Int32) × (Nat → Int32) × (Nat → Int32)), k118 x2 x3 t_code t_count t_known t_news t_parameters t_length t_newLength t_now t_anew t_met t_any t_number t_outAny t_out = some out → ∀ (H : Heap) (locs : List Loc) (ls : Array Slot), g_W tA dC dI cI cZ cJ A s H locs (w_X8_analyse cI cZ cJ a_t a_t_parameters a_t_length a_t_newLength a_t_first a_t_now a_t_anew a_t_table a_t_met a_t_any a_t_number a_t_outAny a_t_out a_t_inputs a_t_at a_t_in a_t_back a_t_register a_t_output a_t_calls a_t_latest a_t_differ t_code t_own t_count t_tableSize t_given t_known t_news t_depth t_steps t_taken t_shown t_outcome t_parameters t_length t_newLength t_first t_now t_anew t_table t_met t_any t_number t_outAny t_out) → lv_has ls 5 [(0, .ref a_t), (2, .int x2), (3, .int x3)] → W p l e r_X8_analyse s m args below meth c H locs 0 0 (MQ below (g_Qi dC dI cI cZ cJ A (w_X8_analyse cI cZ cJ a_t a_t_parameters a_t_length a_t_newLength a_t_first a_t_now a_t_anew a_t_table a_t_met a_t_any a_t_number a_t_outAny a_t_out a_t_inputs a_t_at a_t_in a_t_back a_t_register a_t_output a_t_calls a_t_latest a_t_differ out.2.1 t_own out.2.2.1 t_tableSize t_given out.2.2.2.1 out.2.2.2.2.1 t_depth t_steps t_taken t_shown t_outcome out.2.2.2.2.2.1 out.2.2.2.2.2.2.1 out.2.2.2.2.2.2.2.1 t_first out.2.2.2.2.2.2.2.2.1 out.2.2.2.2.2.2.2.2.2.1 t_table out.2.2.2.2.2.2.2.2.2.2.1 out.2.2.2.2.2.2.2.2.2.2.2.1 out.2.2.2.2.2.2.2.2.2.2.2.2.1 out.2.2.2.2.2.2.2.2.2.2.2.2.2.1 out.2.2.2.2.2.2.2.2.2.2.2.2.2.2) out.1) args s 0 0 A) (F0 m 118 ls [])) :
    ∀ (n : Nat) (x2 : Int32) (x3 : Int32) (x4 : Int32) (t_code : Int32) (t_count : Int32) (t_known : Int32) (t_news : Int32) (t_parameters : Nat → Int32) (t_length : Nat → Int32) (t_newLength : Nat → Int32) (t_now : Nat → Int32) (t_anew : Nat → Int32) (t_met : Nat → Int32) (t_any : Nat → Int32) (t_number : Nat → Int32) (t_outAny : Nat → Int32) (t_out : Nat → Int32) (out : Int32 × Int32 × Int32 × Int32 × Int32 × (Nat → Int32) × (Nat → Int32) × (Nat → Int32) × (Nat → Int32) × (Nat → Int32) × (Nat → Int32) × (Nat → Int32) × (Nat → Int32) × (Nat → Int32) × (Nat → Int32)), f_X8_analyse_177 N k118 x1 t_own t_tableSize t_first t_table n x2 x3 x4 t_code t_count t_known t_news t_parameters t_length t_newLength t_now t_anew t_met t_any t_number t_outAny t_out = some out → ∀ (H : Heap) (locs : List Loc) (ls : Array Slot), g_W tA dC dI cI cZ cJ A s H locs (w_X8_analyse cI cZ cJ a_t a_t_parameters a_t_length a_t_newLength a_t_first a_t_now a_t_anew a_t_table a_t_met a_t_any a_t_number a_t_outAny a_t_out a_t_inputs a_t_at a_t_in a_t_back a_t_register a_t_output a_t_calls a_t_latest a_t_differ t_code t_own t_count t_tableSize t_given t_known t_news t_depth t_steps t_taken t_shown t_outcome t_parameters t_length t_newLength t_first t_now t_anew t_table t_met t_any t_number t_outAny t_out) → lv_has ls 5 [(0, .ref a_t), (2, .int x2), (3, .int x3), (4, .int x4)] → W p l e r_X8_analyse s m args below meth c H locs 0 0 (MQ below (g_Qi dC dI cI cZ cJ A (w_X8_analyse cI cZ cJ a_t a_t_parameters a_t_length a_t_newLength a_t_first a_t_now a_t_anew a_t_table a_t_met a_t_any a_t_number a_t_outAny a_t_out a_t_inputs a_t_at a_t_in a_t_back a_t_register a_t_output a_t_calls a_t_latest a_t_differ out.2.1 t_own out.2.2.1 t_tableSize t_given out.2.2.2.1 out.2.2.2.2.1 t_depth t_steps t_taken t_shown t_outcome out.2.2.2.2.2.1 out.2.2.2.2.2.2.1 out.2.2.2.2.2.2.2.1 t_first out.2.2.2.2.2.2.2.2.1 out.2.2.2.2.2.2.2.2.2.1 t_table out.2.2.2.2.2.2.2.2.2.2.1 out.2.2.2.2.2.2.2.2.2.2.2.1 out.2.2.2.2.2.2.2.2.2.2.2.2.1 out.2.2.2.2.2.2.2.2.2.2.2.2.2.1 out.2.2.2.2.2.2.2.2.2.2.2.2.2.2) out.1) args s 0 0 A) (F0 m 177 ls []) := by
  have hx := hC.1
  have hb := hC.2.1
  have hown := hC.2.2.2.2.1
  have hts := hC.2.2.2.2.2.1
  intro n
  induction n with
  | zero =>
    intro x2 x3 x4 t_code t_count t_known t_news t_parameters t_length t_newLength t_now t_anew t_met t_any t_number t_outAny t_out out hf
    exact g_no hf
  | succ n ih =>
    intro x2 x3 x4 t_code t_count t_known t_news t_parameters t_length t_newLength t_now t_anew t_met t_any t_number t_outAny t_out out hf H locs ls hW hl
    refine lv_iload hx hb dX8_analyse_177 (lv_at hl 3 rfl) ?_
    refine lv_aload_n hx hb dX8_analyse_179 rfl (lv_at hl 0 rfl) ?_
    refine gs_get hC hW in_X8 0 5 rfl rfl (by decide) fl_X8_16 rfl dX8_analyse_180 ?_
    refine lv_iload_n hx hb dX8_analyse_183 rfl (lv_at hl 2 rfl) ?_
    obtain ⟨v1, h1, hf⟩ := g_bnd hf
    refine gs_iald hC hW 3 h1 rfl dX8_analyse_184 ?_
    refine lv_icmp_ge (tgt := 201) hx hb dX8_analyse_185 (by decide) (fun c2 => ?_) (fun c2 => ?_)
    · replace hf := (if_pos c2).symm.trans hf
      refine lv_iinc (v := x3 + 1) (lv' := [(3, .int (x3 + 1)), (0, .ref a_t), (2, .int x2), (4, .int x4)]) hx hb dX8_analyse_201 hl (k := 2) rfl rfl (by decide) rfl (fun ls hl => ?_)
      refine lv_goto (tgt := 118) hx hb dX8_analyse_204 (by decide) ?_
      exact hk118 _ _ _ _ _ _ _ _ _ _ _ _ _ _ _ _ _ hf _ _ _ hW (lv_sub hl [1, 2, 0] rfl)
    · replace hf := (if_neg c2).symm.trans hf
      refine lv_aload_n hx hb dX8_analyse_188 rfl (lv_at hl 0 rfl) ?_
      refine lv_iload_n hx hb dX8_analyse_189 rfl (lv_at hl 2 rfl) ?_
      refine lv_iload hx hb dX8_analyse_190 (lv_at hl 3 rfl) ?_
      obtain ⟨o3, h3, hf⟩ := g_bnd hf
      refine gs_callVv (ws' := w_X8_analyse cI cZ cJ a_t a_t_parameters a_t_length a_t_newLength a_t_first a_t_now a_t_anew a_t_table a_t_met a_t_any a_t_number a_t_outAny a_t_out a_t_inputs a_t_at a_t_in a_t_back a_t_register a_t_output a_t_calls a_t_latest a_t_differ t_code t_own t_count t_tableSize t_given t_known t_news t_depth t_steps t_taken t_shown t_outcome t_parameters t_length t_newLength t_first t_now o3 t_table t_met t_any t_number t_outAny t_out) hC hW (k_X8_renew l tA dC dI cI cZ cJ a_t a_t_now a_t_anew a_t_table a_t_met a_t_any a_t_number a_t_parameters a_t_length a_t_newLength a_t_first a_t_inputs a_t_outAny a_t_out a_t_at a_t_in a_t_back a_t_register a_t_output a_t_calls a_t_latest a_t_differ N x3 x4 t_code t_own t_count t_tableSize t_given t_known t_news t_depth t_steps t_taken t_shown t_outcome t_now t_anew t_table t_met t_any t_number _ h3) yk_X8_renew lk_X8_171 iv_X8_renew ⟨rfl, rfl⟩ ⟨Nat.le_of_ble_eq_true rfl, Nat.le_of_ble_eq_true rfl⟩ hl.1 0 rfl rfl [0, 5, 6, 7, 8, 9, 10] [1, 2, 3, 4, 11, 12] [6, 0, 1, 2, 3, 7, 8, 9, 10, 11, 12, 4, 5] rfl rfl rfl rfl (by decide) rfl rfl rfl rfl (Nat.le_of_ble_eq_true rfl) dX8_analyse_192 ⟨Nat.zero_le _, Nat.zero_le _⟩ (fun H locs hW => ?_)
      refine lv_iinc (v := x4 + 1) (lv' := [(4, .int (x4 + 1)), (0, .ref a_t), (2, .int x2), (3, .int x3)]) hx hb dX8_analyse_195 hl (k := 3) rfl rfl (by decide) rfl (fun ls hl => ?_)
      refine lv_goto (tgt := 177) hx hb dX8_analyse_198 (by decide) ?_
      exact ih _ _ _ _ _ _ _ _ _ _ _ _ _ _ _ _ _ _ hf _ _ _ hW (lv_sub hl [1, 2, 3, 0] rfl)
def f_X8_analyse_153 (N : Nat) (k118 : Int32 → Int32 → Int32 → Int32 → Int32 → Int32 → (Nat → Int32) → (Nat → Int32) → (Nat → Int32) → (Nat → Int32) → (Nat → Int32) → (Nat → Int32) → (Nat → Int32) → (Nat → Int32) → (Nat → Int32) → (Nat → Int32) → Option (Int32 × Int32 × Int32 × Int32 × Int32 × (Nat → Int32) × (Nat → Int32) × (Nat → Int32) × (Nat → Int32) × (Nat → Int32) × (Nat → Int32) × (Nat → Int32) × (Nat → Int32) × (Nat → Int32) × (Nat → Int32))) (x1 : Int32) (t_own : Int32) (t_tableSize : Int32) (t_first : Nat → Int32) (t_table : Nat → Int32) (x2 : Int32) (x3 : Int32) (z0 : Int32) (z1 : Int32) (t_code : Int32) (t_count : Int32) (t_known : Int32) (t_news : Int32) (t_parameters : Nat → Int32) (t_length : Nat → Int32) (t_newLength : Nat → Int32) (t_now : Nat → Int32) (t_anew : Nat → Int32) (t_met : Nat → Int32) (t_any : Nat → Int32) (t_number : Nat → Int32) (t_outAny : Nat → Int32) (t_out : Nat → Int32) : Option (Int32 × Int32 × Int32 × Int32 × Int32 × (Nat → Int32) × (Nat → Int32) × (Nat → Int32) × (Nat → Int32) × (Nat → Int32) × (Nat → Int32) × (Nat → Int32) × (Nat → Int32) × (Nat → Int32) × (Nat → Int32)) := (g_wr 12 t_newLength z1 z0).bind (fun s4 => (g_rd 204 t_met (17 * x3)).bind (fun v5 => if v5 = 0 then f_X8_analyse_177 N k118 x1 t_own t_tableSize t_first t_table N (x2 + 0) x3 0 t_code t_count t_known t_news t_parameters t_length s4 t_now t_anew t_met t_any t_number t_outAny t_out else f_X8_analyse_177 N k118 x1 t_own t_tableSize t_first t_table N (x2 + 1) x3 0 t_code t_count t_known t_news t_parameters t_length s4 t_now t_anew t_met t_any t_number t_outAny t_out))
set_option maxHeartbeats 4000000 in
set_option maxRecDepth 100000 in
theorem b_X8_analyse_153 {p : Program} {l : Launch} {e : Env} {s : State} {m : MethodId} {args : Array Value} {below : List Frame} {meth : Method} {c : Code} {tA : Nat} {dC : Nat → ClassId} {dI : Nat → Nat → Nat} {cI cZ cJ : ClassId} {A : Nat → Prop} {a_t : Nat} {a_t_parameters : Nat} {a_t_length : Nat} {a_t_newLength : Nat} {a_t_first : Nat} {a_t_now : Nat} {a_t_anew : Nat} {a_t_table : Nat} {a_t_met : Nat} {a_t_any : Nat} {a_t_number : Nat} {a_t_outAny : Nat} {a_t_out : Nat} {a_t_inputs : Nat} {a_t_at : Nat} {a_t_in : Nat} {a_t_back : Nat} {a_t_register : Nat} {a_t_output : Nat} {a_t_calls : Nat} {a_t_latest : Nat} {a_t_differ : Nat} {x1 : Int32} {t_own : Int32} {t_tableSize : Int32} {t_first : Nat → Int32} {t_table : Nat → Int32} {t_given : Int32} {t_depth : Int32} {t_steps : Int32} {t_taken : Int32} {t_shown : Int32} {t_outcome : Int32} {N : Nat} {k118 : Int32 → Int32 → Int32 → Int32 → Int32 → Int32 → (Nat → Int32) → (Nat → Int32) → (Nat → Int32) → (Nat → Int32) → (Nat → Int32) → (Nat → Int32) → (Nat → Int32) → (Nat → Int32) → (Nat → Int32) → (Nat → Int32) → Option (Int32 × Int32 × Int32 × Int32 × Int32 × (Nat → Int32) × (Nat → Int32) × (Nat → Int32) × (Nat → Int32) × (Nat → Int32) × (Nat → Int32) × (Nat → Int32) × (Nat → Int32) × (Nat → Int32) × (Nat → Int32))} {x2 : Int32} {x3 : Int32} {z0 : Int32} {z1 : Int32} {t_code : Int32} {t_count : Int32} {t_known : Int32} {t_news : Int32} {t_parameters : Nat → Int32} {t_length : Nat → Int32} {t_newLength : Nat → Int32} {t_now : Nat → Int32} {t_anew : Nat → Int32} {t_met : Nat → Int32} {t_any : Nat → Int32} {t_number : Nat → Int32} {t_outAny : Nat → Int32} {t_out : Nat → Int32} {out : Int32 × Int32 × Int32 × Int32 × Int32 × (Nat → Int32) × (Nat → Int32) × (Nat → Int32) × (Nat → Int32) × (Nat → Int32) × (Nat → Int32) × (Nat → Int32) × (Nat → Int32) × (Nat → Int32) × (Nat → Int32)} (hC : g_C p s m meth c args cX8_analyse 5 (some .int) RX8) (hk118 : ∀ (x2 : Int32) (x3 : Int32) (t_code : Int32) (t_count : Int32) (t_known : Int32) (t_news : Int32) (t_parameters : Nat → Int32) (t_length : Nat → Int32) (t_newLength : Nat → Int32) (t_now : Nat → Int32) (t_anew : Nat → Int32) (t_met : Nat → Int32) (t_any : Nat → Int32) (t_number : Nat → Int32) (t_outAny : Nat → Int32) (t_out : Nat → Int32) (out : Int32 × Int32 × Int32 × Int32 × Int32 × (Nat → Int32) × (Nat → Int32) × (Nat → Int32) × (Nat → Int32) × (Nat → Int32) × (Nat → Int32) × (Nat → Int32) × (Nat → Int32) × (Nat → Int32) × (Nat → Int32)), k118 x2 x3 t_code t_count t_known t_news t_parameters t_length t_newLength t_now t_anew t_met t_any t_number t_outAny t_out = some out → ∀ (H : Heap) (locs : List Loc) (ls : Array Slot), g_W tA dC dI cI cZ cJ A s H locs (w_X8_analyse cI cZ cJ a_t a_t_parameters a_t_length a_t_newLength a_t_first a_t_now a_t_anew a_t_table a_t_met a_t_any a_t_number a_t_outAny a_t_out a_t_inputs a_t_at a_t_in a_t_back a_t_register a_t_output a_t_calls a_t_latest a_t_differ t_code t_own t_count t_tableSize t_given t_known t_news t_depth t_steps t_taken t_shown t_outcome t_parameters t_length t_newLength t_first t_now t_anew t_table t_met t_any t_number t_outAny t_out) → lv_has ls 5 [(0, .ref a_t), (2, .int x2), (3, .int x3)] → W p l e r_X8_analyse s m args below meth c H locs 0 0 (MQ below (g_Qi dC dI cI cZ cJ A (w_X8_analyse cI cZ cJ a_t a_t_parameters a_t_length a_t_newLength a_t_first a_t_now a_t_anew a_t_table a_t_met a_t_any a_t_number a_t_outAny a_t_out a_t_inputs a_t_at a_t_in a_t_back a_t_register a_t_output a_t_calls a_t_latest a_t_differ out.2.1 t_own out.2.2.1 t_tableSize t_given out.2.2.2.1 out.2.2.2.2.1 t_depth t_steps t_taken t_shown t_outcome out.2.2.2.2.2.1 out.2.2.2.2.2.2.1 out.2.2.2.2.2.2.2.1 t_first out.2.2.2.2.2.2.2.2.1 out.2.2.2.2.2.2.2.2.2.1 t_table out.2.2.2.2.2.2.2.2.2.2.1 out.2.2.2.2.2.2.2.2.2.2.2.1 out.2.2.2.2.2.2.2.2.2.2.2.2.1 out.2.2.2.2.2.2.2.2.2.2.2.2.2.1 out.2.2.2.2.2.2.2.2.2.2.2.2.2.2) out.1) args s 0 0 A) (F0 m 118 ls [])) (hf : f_X8_analyse_153 N k118 x1 t_own t_tableSize t_first t_table x2 x3 z0 z1 t_code t_count t_known t_news t_parameters t_length t_newLength t_now t_anew t_met t_any t_number t_outAny t_out = some out) {H : Heap} {locs : List Loc} {ls : Array Slot} (hW : g_W tA dC dI cI cZ cJ A s H locs (w_X8_analyse cI cZ cJ a_t a_t_parameters a_t_length a_t_newLength a_t_first a_t_now a_t_anew a_t_table a_t_met a_t_any a_t_number a_t_outAny a_t_out a_t_inputs a_t_at a_t_in a_t_back a_t_register a_t_output a_t_calls a_t_latest a_t_differ t_code t_own t_count t_tableSize t_given t_known t_news t_depth t_steps t_taken t_shown t_outcome t_parameters t_length t_newLength t_first t_now t_anew t_table t_met t_any t_number t_outAny t_out)) (hl : lv_has ls 5 [(0, .ref a_t), (2, .int x2), (3, .int x3)]) : W p l e r_X8_analyse s m args below meth c H locs 0 0 (MQ below (g_Qi dC dI cI cZ cJ A (w_X8_analyse cI cZ cJ a_t a_t_parameters a_t_length a_t_newLength a_t_first a_t_now a_t_anew a_t_table a_t_met a_t_any a_t_number a_t_outAny a_t_out a_t_inputs a_t_at a_t_in a_t_back a_t_register a_t_output a_t_calls a_t_latest a_t_differ out.2.1 t_own out.2.2.1 t_tableSize t_given out.2.2.2.1 out.2.2.2.2.1 t_depth t_steps t_taken t_shown t_outcome out.2.2.2.2.2.1 out.2.2.2.2.2.2.1 out.2.2.2.2.2.2.2.1 t_first out.2.2.2.2.2.2.2.2.1 out.2.2.2.2.2.2.2.2.2.1 t_table out.2.2.2.2.2.2.2.2.2.2.1 out.2.2.2.2.2.2.2.2.2.2.2.1 out.2.2.2.2.2.2.2.2.2.2.2.2.1 out.2.2.2.2.2.2.2.2.2.2.2.2.2.1 out.2.2.2.2.2.2.2.2.2.2.2.2.2.2) out.1) args s 0 0 A) (F0 m 153 ls [.int z0, .int z1, .ref a_t_newLength]) := by
  have hx := hC.1
  have hb := hC.2.1
  have hown := hC.2.2.2.2.1
  have hts := hC.2.2.2.2.2.1
  unfold f_X8_analyse_153 at hf
  obtain ⟨s4, h4, hf⟩ := g_bnd hf
  refine gs_iast (ws' := w_X8_analyse cI cZ cJ a_t a_t_parameters a_t_length a_t_newLength a_t_first a_t_now a_t_anew a_t_table a_t_met a_t_any a_t_number a_t_outAny a_t_out a_t_inputs a_t_at a_t_in a_t_back a_t_register a_t_output a_t_calls a_t_latest a_t_differ t_code t_own t_count t_tableSize t_given t_known t_news t_depth t_steps t_taken t_shown t_outcome t_parameters t_length s4 t_first t_now t_anew t_table t_met t_any t_number t_outAny t_out) hC hW 3 h4 rfl rfl dX8_analyse_153 (fun H locs hW => ?_)
  refine lv_iload_n hx hb dX8_analyse_154 rfl (lv_at hl 1 rfl) ?_
  refine lv_aload_n hx hb dX8_analyse_155 rfl (lv_at hl 0 rfl) ?_
  refine gs_get hC hW in_X8 0 14 rfl rfl (by decide) fl_X8_34 rfl dX8_analyse_156 ?_
  refine lv_bipush (v := 17) hx hb dX8_analyse_159 (by decide) ?_
  refine lv_iload_n hx hb dX8_analyse_161 rfl (lv_at hl 2 rfl) ?_
  refine lv_imul hx hb dX8_analyse_162 ?_
  obtain ⟨v5, h5, hf⟩ := g_bnd hf
  refine gs_zald hC hW 8 h5 rfl dX8_analyse_163 ?_
  refine lv_if_eq (tgt := 171) hx hb dX8_analyse_164 (by decide) (fun c6 => ?_) (fun c6 => ?_)
  · replace hf := (if_pos c6).symm.trans hf
    refine lv_iconst (v := 0) hx hb dX8_analyse_171 (by decide) ?_
    refine lv_iadd hx hb dX8_analyse_172 ?_
    refine lv_istore_n (lv' := [(2, .int (x2 + 0)), (0, .ref a_t), (3, .int x3)]) hx hb dX8_analyse_173 rfl hl (by decide) rfl (fun ls hl => ?_)
    refine lv_iconst (v := 0) hx hb dX8_analyse_174 (by decide) ?_
    refine lv_istore (lv' := [(4, .int 0), (2, .int (x2 + 0)), (0, .ref a_t), (3, .int x3)]) hx hb dX8_analyse_175 hl (by decide) rfl (fun ls hl => ?_)
    exact b_X8_analyse_177 hC hk118 N _ _ _ _ _ _ _ _ _ _ _ _ _ _ _ _ _ _ hf _ _ _ hW (lv_sub hl [2, 1, 3, 0] rfl)
  · replace hf := (if_neg c6).symm.trans hf
    refine lv_iconst (v := 1) hx hb dX8_analyse_167 (by decide) ?_
    refine lv_goto (tgt := 172) hx hb dX8_analyse_168 (by decide) ?_
    refine lv_iadd hx hb dX8_analyse_172 ?_
    refine lv_istore_n (lv' := [(2, .int (x2 + 1)), (0, .ref a_t), (3, .int x3)]) hx hb dX8_analyse_173 rfl hl (by decide) rfl (fun ls hl => ?_)
    refine lv_iconst (v := 0) hx hb dX8_analyse_174 (by decide) ?_
    refine lv_istore (lv' := [(4, .int 0), (2, .int (x2 + 1)), (0, .ref a_t), (3, .int x3)]) hx hb dX8_analyse_175 hl (by decide) rfl (fun ls hl => ?_)
    exact b_X8_analyse_177 hC hk118 N _ _ _ _ _ _ _ _ _ _ _ _ _ _ _ _ _ _ hf _ _ _ hW (lv_sub hl [2, 1, 3, 0] rfl)
def f_X8_analyse_118 (N : Nat) (x1 : Int32) (t_own : Int32) (t_tableSize : Int32) (t_first : Nat → Int32) (t_table : Nat → Int32) : Nat → Int32 → Int32 → Int32 → Int32 → Int32 → Int32 → (Nat → Int32) → (Nat → Int32) → (Nat → Int32) → (Nat → Int32) → (Nat → Int32) → (Nat → Int32) → (Nat → Int32) → (Nat → Int32) → (Nat → Int32) → (Nat → Int32) → Option (Int32 × Int32 × Int32 × Int32 × Int32 × (Nat → Int32) × (Nat → Int32) × (Nat → Int32) × (Nat → Int32) × (Nat → Int32) × (Nat → Int32) × (Nat → Int32) × (Nat → Int32) × (Nat → Int32) × (Nat → Int32))
  | 0, _, _, _, _, _, _, _, _, _, _, _, _, _, _, _, _ => none
  | n + 1, x2, x3, t_code, t_count, t_known, t_news, t_parameters, t_length, t_newLength, t_now, t_anew, t_met, t_any, t_number, t_outAny, t_out => if t_count ≤ x3 then some (x2, t_code, t_count, t_known, t_news, t_parameters, t_length, t_newLength, t_now, t_anew, t_met, t_any, t_number, t_outAny, t_out) else (g_rd 204 t_met (17 * x3)).bind (fun v8 => if v8 = 0 then f_X8_analyse_153 N (f_X8_analyse_118 N x1 t_own t_tableSize t_first t_table n) x1 t_own t_tableSize t_first t_table x2 x3 0 x3 t_code t_count t_known t_news t_parameters t_length t_newLength t_now t_anew t_met t_any t_number t_outAny t_out else (g_rd 12 t_length x3).bind (fun v10 => f_X8_analyse_153 N (f_X8_analyse_118 N x1 t_own t_tableSize t_first t_table n) x1 t_own t_tableSize t_first t_table x2 x3 v10 x3 t_code t_count t_known t_news t_parameters t_length t_newLength t_now t_anew t_met t_any t_number t_outAny t_out))
set_option maxHeartbeats 4000000 in
set_option maxRecDepth 100000 in
theorem b_X8_analyse_118 {p : Program} {l : Launch} {e : Env} {s : State} {m : MethodId} {args : Array Value} {below : List Frame} {meth : Method} {c : Code} {tA : Nat} {dC : Nat → ClassId} {dI : Nat → Nat → Nat} {cI cZ cJ : ClassId} {A : Nat → Prop} {a_t : Nat} {a_t_parameters : Nat} {a_t_length : Nat} {a_t_newLength : Nat} {a_t_first : Nat} {a_t_now : Nat} {a_t_anew : Nat} {a_t_table : Nat} {a_t_met : Nat} {a_t_any : Nat} {a_t_number : Nat} {a_t_outAny : Nat} {a_t_out : Nat} {a_t_inputs : Nat} {a_t_at : Nat} {a_t_in : Nat} {a_t_back : Nat} {a_t_register : Nat} {a_t_output : Nat} {a_t_calls : Nat} {a_t_latest : Nat} {a_t_differ : Nat} {x1 : Int32} {t_own : Int32} {t_tableSize : Int32} {t_first : Nat → Int32} {t_table : Nat → Int32} {t_given : Int32} {t_depth : Int32} {t_steps : Int32} {t_taken : Int32} {t_shown : Int32} {t_outcome : Int32} {N : Nat} (hC : g_C p s m meth c args cX8_analyse 5 (some .int) RX8) :
    ∀ (n : Nat) (x2 : Int32) (x3 : Int32) (t_code : Int32) (t_count : Int32) (t_known : Int32) (t_news : Int32) (t_parameters : Nat → Int32) (t_length : Nat → Int32) (t_newLength : Nat → Int32) (t_now : Nat → Int32) (t_anew : Nat → Int32) (t_met : Nat → Int32) (t_any : Nat → Int32) (t_number : Nat → Int32) (t_outAny : Nat → Int32) (t_out : Nat → Int32) (out : Int32 × Int32 × Int32 × Int32 × Int32 × (Nat → Int32) × (Nat → Int32) × (Nat → Int32) × (Nat → Int32) × (Nat → Int32) × (Nat → Int32) × (Nat → Int32) × (Nat → Int32) × (Nat → Int32) × (Nat → Int32)), f_X8_analyse_118 N x1 t_own t_tableSize t_first t_table n x2 x3 t_code t_count t_known t_news t_parameters t_length t_newLength t_now t_anew t_met t_any t_number t_outAny t_out = some out → ∀ (H : Heap) (locs : List Loc) (ls : Array Slot), g_W tA dC dI cI cZ cJ A s H locs (w_X8_analyse cI cZ cJ a_t a_t_parameters a_t_length a_t_newLength a_t_first a_t_now a_t_anew a_t_table a_t_met a_t_any a_t_number a_t_outAny a_t_out a_t_inputs a_t_at a_t_in a_t_back a_t_register a_t_output a_t_calls a_t_latest a_t_differ t_code t_own t_count t_tableSize t_given t_known t_news t_depth t_steps t_taken t_shown t_outcome t_parameters t_length t_newLength t_first t_now t_anew t_table t_met t_any t_number t_outAny t_out) → lv_has ls 5 [(0, .ref a_t), (2, .int x2), (3, .int x3)] → W p l e r_X8_analyse s m args below meth c H locs 0 0 (MQ below (g_Qi dC dI cI cZ cJ A (w_X8_analyse cI cZ cJ a_t a_t_parameters a_t_length a_t_newLength a_t_first a_t_now a_t_anew a_t_table a_t_met a_t_any a_t_number a_t_outAny a_t_out a_t_inputs a_t_at a_t_in a_t_back a_t_register a_t_output a_t_calls a_t_latest a_t_differ out.2.1 t_own out.2.2.1 t_tableSize t_given out.2.2.2.1 out.2.2.2.2.1 t_depth t_steps t_taken t_shown t_outcome out.2.2.2.2.2.1 out.2.2.2.2.2.2.1 out.2.2.2.2.2.2.2.1 t_first out.2.2.2.2.2.2.2.2.1 out.2.2.2.2.2.2.2.2.2.1 t_table out.2.2.2.2.2.2.2.2.2.2.1 out.2.2.2.2.2.2.2.2.2.2.2.1 out.2.2.2.2.2.2.2.2.2.2.2.2.1 out.2.2.2.2.2.2.2.2.2.2.2.2.2.1 out.2.2.2.2.2.2.2.2.2.2.2.2.2.2) out.1) args s 0 0 A) (F0 m 118 ls []) := by
  have hx := hC.1
  have hb := hC.2.1
  have hown := hC.2.2.2.2.1
  have hts := hC.2.2.2.2.2.1
  intro n
  induction n with
  | zero =>
    intro x2 x3 t_code t_count t_known t_news t_parameters t_length t_newLength t_now t_anew t_met t_any t_number t_outAny t_out out hf
    exact g_no hf
  | succ n ih =>
    intro x2 x3 t_code t_count t_known t_news t_parameters t_length t_newLength t_now t_anew t_met t_any t_number t_outAny t_out out hf H locs ls hW hl
    refine lv_iload_n hx hb dX8_analyse_118 rfl (lv_at hl 2 rfl) ?_
    refine lv_aload_n hx hb dX8_analyse_119 rfl (lv_at hl 0 rfl) ?_
    refine gs_get hC hW in_X8 0 2 rfl rfl (by decide) fl_X8_85 rfl dX8_analyse_120 ?_
    refine lv_icmp_ge (tgt := 207) hx hb dX8_analyse_123 (by decide) (fun c7 => ?_) (fun c7 => ?_)
    · replace hf := (if_pos c7).symm.trans hf
      refine lv_iload_n hx hb dX8_analyse_207 rfl (lv_at hl 1 rfl) ?_
      obtain rfl := Option.some.inj hf
      exact gs_ri hC hW rfl dX8_analyse_208
    · replace hf := (if_neg c7).symm.trans hf
      refine lv_aload_n hx hb dX8_analyse_126 rfl (lv_at hl 0 rfl) ?_
      refine gs_get hC hW in_X8 0 5 rfl rfl (by decide) fl_X8_16 rfl dX8_analyse_127 ?_
      refine lv_iload_n hx hb dX8_analyse_130 rfl (lv_at hl 2 rfl) ?_
      refine lv_aload_n hx hb dX8_analyse_131 rfl (lv_at hl 0 rfl) ?_
      refine gs_get hC hW in_X8 0 14 rfl rfl (by decide) fl_X8_34 rfl dX8_analyse_132 ?_
      refine lv_bipush (v := 17) hx hb dX8_analyse_135 (by decide) ?_
      refine lv_iload_n hx hb dX8_analyse_137 rfl (lv_at hl 2 rfl) ?_
      refine lv_imul hx hb dX8_analyse_138 ?_
      obtain ⟨v8, h8, hf⟩ := g_bnd hf
      refine gs_zald hC hW 8 h8 rfl dX8_analyse_139 ?_
      refine lv_if_eq (tgt := 152) hx hb dX8_analyse_140 (by decide) (fun c9 => ?_) (fun c9 => ?_)
      · replace hf := (if_pos c9).symm.trans hf
        refine lv_iconst (v := 0) hx hb dX8_analyse_152 (by decide) ?_
        exact b_X8_analyse_153 hC ih hf hW (lv_sub hl [0, 1, 2] rfl)
      · replace hf := (if_neg c9).symm.trans hf
        refine lv_aload_n hx hb dX8_analyse_143 rfl (lv_at hl 0 rfl) ?_
        refine gs_get hC hW in_X8 0 4 rfl rfl (by decide) fl_X8_13 rfl dX8_analyse_144 ?_
        refine lv_iload_n hx hb dX8_analyse_147 rfl (lv_at hl 2 rfl) ?_
        obtain ⟨v10, h10, hf⟩ := g_bnd hf
        refine gs_iald hC hW 2 h10 rfl dX8_analyse_148 ?_
        refine lv_goto (tgt := 153) hx hb dX8_analyse_149 (by decide) ?_
        exact b_X8_analyse_153 hC ih hf hW (lv_sub hl [0, 1, 2] rfl)
def f_X8_analyse_82 (N : Nat) (x1 : Int32) (t_own : Int32) (t_tableSize : Int32) (t_first : Nat → Int32) (t_table : Nat → Int32) : Nat → Int32 → Int32 → Int32 → Int32 → (Nat → Int32) → (Nat → Int32) → (Nat → Int32) → (Nat → Int32) → (Nat → Int32) → (Nat → Int32) → (Nat → Int32) → (Nat → Int32) → (Nat → Int32) → (Nat → Int32) → Option (Int32 × Int32 × Int32 × Int32 × Int32 × (Nat → Int32) × (Nat → Int32) × (Nat → Int32) × (Nat → Int32) × (Nat → Int32) × (Nat → Int32) × (Nat → Int32) × (Nat → Int32) × (Nat → Int32) × (Nat → Int32))
  | 0, _, _, _, _, _, _, _, _, _, _, _, _, _, _ => none
  | n + 1, t_code, t_count, t_known, t_news, t_parameters, t_length, t_newLength, t_now, t_anew, t_met, t_any, t_number, t_outAny, t_out => if (t_own + x1) ≤ t_count then f_X8_analyse_118 N x1 t_own t_tableSize t_first t_table N 0 0 t_code t_count 1 t_news t_parameters t_length t_newLength t_now t_anew t_met t_any t_number t_outAny t_out else (f_X8_specialises N t_count t_parameters t_length t_now t_met t_any t_number).bind (fun o12 => if o12.1 = 0 then f_X8_analyse_118 N x1 t_own t_tableSize t_first t_table N 0 0 t_code o12.2.1 1 t_news o12.2.2.1 o12.2.2.2.1 t_newLength o12.2.2.2.2 t_anew t_met t_any t_number t_outAny t_out else (f_X8_learn N o12.2.1 t_tableSize t_news o12.2.2.1 o12.2.2.2.1 o12.2.2.2.2 t_table t_met t_any t_number t_outAny t_out).bind (fun o14 => f_X8_analyse_82 N x1 t_own t_tableSize t_first t_table n t_code o12.2.1 t_known o14.1 o12.2.2.1 o12.2.2.2.1 t_newLength o12.2.2.2.2 t_anew o14.2.1 o14.2.2.1 o14.2.2.2.1 o14.2.2.2.2.1 o14.2.2.2.2.2))
set_option maxHeartbeats 4000000 in
set_option maxRecDepth 100000 in
theorem b_X8_analyse_82 {p : Program} {l : Launch} {e : Env} {s : State} {m : MethodId} {args : Array Value} {below : List Frame} {meth : Method} {c : Code} {tA : Nat} {dC : Nat → ClassId} {dI : Nat → Nat → Nat} {cI cZ cJ : ClassId} {A : Nat → Prop} {a_t : Nat} {a_t_parameters : Nat} {a_t_length : Nat} {a_t_newLength : Nat} {a_t_first : Nat} {a_t_now : Nat} {a_t_anew : Nat} {a_t_table : Nat} {a_t_met : Nat} {a_t_any : Nat} {a_t_number : Nat} {a_t_outAny : Nat} {a_t_out : Nat} {a_t_inputs : Nat} {a_t_at : Nat} {a_t_in : Nat} {a_t_back : Nat} {a_t_register : Nat} {a_t_output : Nat} {a_t_calls : Nat} {a_t_latest : Nat} {a_t_differ : Nat} {x1 : Int32} {t_own : Int32} {t_tableSize : Int32} {t_first : Nat → Int32} {t_table : Nat → Int32} {t_given : Int32} {t_depth : Int32} {t_steps : Int32} {t_taken : Int32} {t_shown : Int32} {t_outcome : Int32} {N : Nat} (hC : g_C p s m meth c args cX8_analyse 5 (some .int) RX8) :
    ∀ (n : Nat) (t_code : Int32) (t_count : Int32) (t_known : Int32) (t_news : Int32) (t_parameters : Nat → Int32) (t_length : Nat → Int32) (t_newLength : Nat → Int32) (t_now : Nat → Int32) (t_anew : Nat → Int32) (t_met : Nat → Int32) (t_any : Nat → Int32) (t_number : Nat → Int32) (t_outAny : Nat → Int32) (t_out : Nat → Int32) (out : Int32 × Int32 × Int32 × Int32 × Int32 × (Nat → Int32) × (Nat → Int32) × (Nat → Int32) × (Nat → Int32) × (Nat → Int32) × (Nat → Int32) × (Nat → Int32) × (Nat → Int32) × (Nat → Int32) × (Nat → Int32)), f_X8_analyse_82 N x1 t_own t_tableSize t_first t_table n t_code t_count t_known t_news t_parameters t_length t_newLength t_now t_anew t_met t_any t_number t_outAny t_out = some out → ∀ (H : Heap) (locs : List Loc) (ls : Array Slot), g_W tA dC dI cI cZ cJ A s H locs (w_X8_analyse cI cZ cJ a_t a_t_parameters a_t_length a_t_newLength a_t_first a_t_now a_t_anew a_t_table a_t_met a_t_any a_t_number a_t_outAny a_t_out a_t_inputs a_t_at a_t_in a_t_back a_t_register a_t_output a_t_calls a_t_latest a_t_differ t_code t_own t_count t_tableSize t_given t_known t_news t_depth t_steps t_taken t_shown t_outcome t_parameters t_length t_newLength t_first t_now t_anew t_table t_met t_any t_number t_outAny t_out) → lv_has ls 5 [(0, .ref a_t), (1, .int x1)] → W p l e r_X8_analyse s m args below meth c H locs 0 0 (MQ below (g_Qi dC dI cI cZ cJ A (w_X8_analyse cI cZ cJ a_t a_t_parameters a_t_length a_t_newLength a_t_first a_t_now a_t_anew a_t_table a_t_met a_t_any a_t_number a_t_outAny a_t_out a_t_inputs a_t_at a_t_in a_t_back a_t_register a_t_output a_t_calls a_t_latest a_t_differ out.2.1 t_own out.2.2.1 t_tableSize t_given out.2.2.2.1 out.2.2.2.2.1 t_depth t_steps t_taken t_shown t_outcome out.2.2.2.2.2.1 out.2.2.2.2.2.2.1 out.2.2.2.2.2.2.2.1 t_first out.2.2.2.2.2.2.2.2.1 out.2.2.2.2.2.2.2.2.2.1 t_table out.2.2.2.2.2.2.2.2.2.2.1 out.2.2.2.2.2.2.2.2.2.2.2.1 out.2.2.2.2.2.2.2.2.2.2.2.2.1 out.2.2.2.2.2.2.2.2.2.2.2.2.2.1 out.2.2.2.2.2.2.2.2.2.2.2.2.2.2) out.1) args s 0 0 A) (F0 m 82 ls []) := by
  have hx := hC.1
  have hb := hC.2.1
  have hown := hC.2.2.2.2.1
  have hts := hC.2.2.2.2.2.1
  intro n
  induction n with
  | zero =>
    intro t_code t_count t_known t_news t_parameters t_length t_newLength t_now t_anew t_met t_any t_number t_outAny t_out out hf
    exact g_no hf
  | succ n ih =>
    intro t_code t_count t_known t_news t_parameters t_length t_newLength t_now t_anew t_met t_any t_number t_outAny t_out out hf H locs ls hW hl
    refine lv_aload_n hx hb dX8_analyse_82 rfl (lv_at hl 0 rfl) ?_
    refine gs_get hC hW in_X8 0 2 rfl rfl (by decide) fl_X8_85 rfl dX8_analyse_83 ?_
    refine lv_aload_n hx hb dX8_analyse_86 rfl (lv_at hl 0 rfl) ?_
    refine gs_get hC hW in_X8 0 1 rfl rfl (by decide) fl_X8_82 rfl dX8_analyse_87 ?_
    refine lv_iload_n hx hb dX8_analyse_90 rfl (lv_at hl 1 rfl) ?_
    refine lv_iadd hx hb dX8_analyse_91 ?_
    refine lv_icmp_ge (tgt := 109) hx hb dX8_analyse_92 (by decide) (fun c11 => ?_) (fun c11 => ?_)
    · replace hf := (if_pos c11).symm.trans hf
      refine lv_aload_n hx hb dX8_analyse_109 rfl (lv_at hl 0 rfl) ?_
      refine lv_iconst (v := 1) hx hb dX8_analyse_110 (by decide) ?_
      refine gs_put (ws' := w_X8_analyse cI cZ cJ a_t a_t_parameters a_t_length a_t_newLength a_t_first a_t_now a_t_anew a_t_table a_t_met a_t_any a_t_number a_t_outAny a_t_out a_t_inputs a_t_at a_t_in a_t_back a_t_register a_t_output a_t_calls a_t_latest a_t_differ t_code t_own t_count t_tableSize t_given 1 t_news t_depth t_steps t_taken t_shown t_outcome t_parameters t_length t_newLength t_first t_now t_anew t_table t_met t_any t_number t_outAny t_out) hC hW in_X8 tyX8_ok nmX8 0 13 rfl rfl (by decide) fl_X8_78 rfl (by decide) (by decide) (Nat.le_of_ble_eq_true rfl) rfl dX8_analyse_111 (fun H locs hW => ?_)
      refine lv_iconst (v := 0) hx hb dX8_analyse_114 (by decide) ?_
      refine lv_istore_n (lv' := [(2, .int 0), (0, .ref a_t), (1, .int x1)]) hx hb dX8_analyse_115 rfl hl (by decide) rfl (fun ls hl => ?_)
      refine lv_iconst (v := 0) hx hb dX8_analyse_116 (by decide) ?_
      refine lv_istore_n (lv' := [(3, .int 0), (2, .int 0), (0, .ref a_t), (1, .int x1)]) hx hb dX8_analyse_117 rfl hl (by decide) rfl (fun ls hl => ?_)
      exact b_X8_analyse_118 hC N _ _ _ _ _ _ _ _ _ _ _ _ _ _ _ _ _ hf _ _ _ hW (lv_sub hl [2, 1, 0] rfl)
    · replace hf := (if_neg c11).symm.trans hf
      refine lv_aload_n hx hb dX8_analyse_95 rfl (lv_at hl 0 rfl) ?_
      obtain ⟨o12, h12, hf⟩ := g_bnd hf
      refine gs_callVi (ws' := w_X8_analyse cI cZ cJ a_t a_t_parameters a_t_length a_t_newLength a_t_first a_t_now a_t_anew a_t_table a_t_met a_t_any a_t_number a_t_outAny a_t_out a_t_inputs a_t_at a_t_in a_t_back a_t_register a_t_output a_t_calls a_t_latest a_t_differ t_code t_own o12.2.1 t_tableSize t_given t_known t_news t_depth t_steps t_taken t_shown t_outcome o12.2.2.1 o12.2.2.2.1 t_newLength t_first o12.2.2.2.2 t_anew t_table t_met t_any t_number t_outAny t_out) hC hW (k_X8_specialises l tA dC dI cI cZ cJ a_t a_t_parameters a_t_length a_t_now a_t_met a_t_any a_t_number a_t_newLength a_t_first a_t_anew a_t_table a_t_inputs a_t_outAny a_t_out a_t_at a_t_in a_t_back a_t_register a_t_output a_t_calls a_t_latest a_t_differ N t_code t_own t_count t_tableSize t_given t_known t_news t_depth t_steps t_taken t_shown t_outcome t_parameters t_length t_now t_met t_any t_number _ h12) yk_X8_specialises lk_X8_167 iv_X8_specialises ⟨rfl, rfl⟩ ⟨Nat.le_of_ble_eq_true rfl, Nat.le_of_ble_eq_true rfl⟩ hl.1 0 rfl rfl [0, 1, 2, 5, 8, 9, 10] [3, 4, 6, 7, 11, 12] [6, 7, 8, 0, 1, 9, 2, 3, 10, 11, 12, 4, 5] rfl rfl rfl rfl (by decide) rfl rfl rfl rfl (Nat.le_of_ble_eq_true rfl) dX8_analyse_96 ⟨Nat.zero_le _, Nat.zero_le _⟩ (fun H locs hW => ?_)
      refine lv_if_eq (tgt := 109) hx hb dX8_analyse_99 (by decide) (fun c13 => ?_) (fun c13 => ?_)
      · replace hf := (if_pos c13).symm.trans hf
        refine lv_aload_n hx hb dX8_analyse_109 rfl (lv_at hl 0 rfl) ?_
        refine lv_iconst (v := 1) hx hb dX8_analyse_110 (by decide) ?_
        refine gs_put (ws' := w_X8_analyse cI cZ cJ a_t a_t_parameters a_t_length a_t_newLength a_t_first a_t_now a_t_anew a_t_table a_t_met a_t_any a_t_number a_t_outAny a_t_out a_t_inputs a_t_at a_t_in a_t_back a_t_register a_t_output a_t_calls a_t_latest a_t_differ t_code t_own o12.2.1 t_tableSize t_given 1 t_news t_depth t_steps t_taken t_shown t_outcome o12.2.2.1 o12.2.2.2.1 t_newLength t_first o12.2.2.2.2 t_anew t_table t_met t_any t_number t_outAny t_out) hC hW in_X8 tyX8_ok nmX8 0 13 rfl rfl (by decide) fl_X8_78 rfl (by decide) (by decide) (Nat.le_of_ble_eq_true rfl) rfl dX8_analyse_111 (fun H locs hW => ?_)
        refine lv_iconst (v := 0) hx hb dX8_analyse_114 (by decide) ?_
        refine lv_istore_n (lv' := [(2, .int 0), (0, .ref a_t), (1, .int x1)]) hx hb dX8_analyse_115 rfl hl (by decide) rfl (fun ls hl => ?_)
        refine lv_iconst (v := 0) hx hb dX8_analyse_116 (by decide) ?_
        refine lv_istore_n (lv' := [(3, .int 0), (2, .int 0), (0, .ref a_t), (1, .int x1)]) hx hb dX8_analyse_117 rfl hl (by decide) rfl (fun ls hl => ?_)
        exact b_X8_analyse_118 hC N _ _ _ _ _ _ _ _ _ _ _ _ _ _ _ _ _ hf _ _ _ hW (lv_sub hl [2, 1, 0] rfl)
      · replace hf := (if_neg c13).symm.trans hf
        refine lv_aload_n hx hb dX8_analyse_102 rfl (lv_at hl 0 rfl) ?_
        obtain ⟨o14, h14, hf⟩ := g_bnd hf
        refine gs_callVv (ws' := w_X8_analyse cI cZ cJ a_t a_t_parameters a_t_length a_t_newLength a_t_first a_t_now a_t_anew a_t_table a_t_met a_t_any a_t_number a_t_outAny a_t_out a_t_inputs a_t_at a_t_in a_t_back a_t_register a_t_output a_t_calls a_t_latest a_t_differ t_code t_own o12.2.1 t_tableSize t_given t_known o14.1 t_depth t_steps t_taken t_shown t_outcome o12.2.2.1 o12.2.2.2.1 t_newLength t_first o12.2.2.2.2 t_anew t_table o14.2.1 o14.2.2.1 o14.2.2.2.1 o14.2.2.2.2.1 o14.2.2.2.2.2) hC hW (k_X8_learn l tA dC dI cI cZ cJ a_t a_t_parameters a_t_length a_t_now a_t_table a_t_met a_t_any a_t_number a_t_outAny a_t_out a_t_newLength a_t_first a_t_anew a_t_inputs a_t_at a_t_in a_t_back a_t_register a_t_output a_t_calls a_t_latest a_t_differ N t_code t_own o12.2.1 t_tableSize t_given t_known t_news t_depth t_steps t_taken t_shown t_outcome o12.2.2.1 o12.2.2.2.1 o12.2.2.2.2 t_table t_met t_any t_number t_outAny t_out _ h14) yk_X8_learn lk_X8_164 iv_X8_learn ⟨rfl, rfl⟩ ⟨Nat.le_of_ble_eq_true rfl, Nat.le_of_ble_eq_true rfl⟩ hl.1 0 rfl rfl [0, 1, 2, 5, 7, 8, 9, 10, 11, 12] [3, 4, 6] [3, 4, 5, 0, 1, 6, 2, 7, 8, 9, 10, 11, 12] rfl rfl rfl rfl (by decide) rfl rfl rfl rfl (Nat.le_of_ble_eq_true rfl) dX8_analyse_103 ⟨Nat.zero_le _, Nat.zero_le _⟩ (fun H locs hW => ?_)
        refine lv_goto (tgt := 82) hx hb dX8_analyse_106 (by decide) ?_
        exact ih _ _ _ _ _ _ _ _ _ _ _ _ _ _ _ hf _ _ _ hW (lv_sub hl [0, 1] rfl)
def f_X8_analyse_49 (N : Nat) (x1 : Int32) (t_own : Int32) (t_tableSize : Int32) (t_first : Nat → Int32) (t_table : Nat → Int32) : Nat → Int32 → Int32 → Int32 → Int32 → Int32 → (Nat → Int32) → (Nat → Int32) → (Nat → Int32) → (Nat → Int32) → (Nat → Int32) → (Nat → Int32) → (Nat → Int32) → (Nat → Int32) → (Nat → Int32) → (Nat → Int32) → Option (Int32 × Int32 × Int32 × Int32 × Int32 × (Nat → Int32) × (Nat → Int32) × (Nat → Int32) × (Nat → Int32) × (Nat → Int32) × (Nat → Int32) × (Nat → Int32) × (Nat → Int32) × (Nat → Int32) × (Nat → Int32))
  | 0, _, _, _, _, _, _, _, _, _, _, _, _, _, _, _ => none
  | n + 1, x2, t_code, t_count, t_known, t_news, t_parameters, t_length, t_newLength, t_now, t_anew, t_met, t_any, t_number, t_outAny, t_out => if (96 * t_own) ≤ x2 then (f_X8_learn N t_count t_tableSize t_news t_parameters t_length t_now t_table t_met t_any t_number t_outAny t_out).bind (fun o16 => f_X8_analyse_82 N x1 t_own t_tableSize t_first t_table N t_code t_count t_known o16.1 t_parameters t_length t_newLength t_now t_anew o16.2.1 o16.2.2.1 o16.2.2.2.1 o16.2.2.2.2.1 o16.2.2.2.2.2) else (g_rd 576 t_first x2).bind (fun v17 => (g_wr 1152 t_now x2 v17).bind (fun s18 => f_X8_analyse_49 N x1 t_own t_tableSize t_first t_table n (x2 + 1) t_code t_count t_known t_news t_parameters t_length t_newLength s18 t_anew t_met t_any t_number t_outAny t_out))
set_option maxHeartbeats 4000000 in
set_option maxRecDepth 100000 in
theorem b_X8_analyse_49 {p : Program} {l : Launch} {e : Env} {s : State} {m : MethodId} {args : Array Value} {below : List Frame} {meth : Method} {c : Code} {tA : Nat} {dC : Nat → ClassId} {dI : Nat → Nat → Nat} {cI cZ cJ : ClassId} {A : Nat → Prop} {a_t : Nat} {a_t_parameters : Nat} {a_t_length : Nat} {a_t_newLength : Nat} {a_t_first : Nat} {a_t_now : Nat} {a_t_anew : Nat} {a_t_table : Nat} {a_t_met : Nat} {a_t_any : Nat} {a_t_number : Nat} {a_t_outAny : Nat} {a_t_out : Nat} {a_t_inputs : Nat} {a_t_at : Nat} {a_t_in : Nat} {a_t_back : Nat} {a_t_register : Nat} {a_t_output : Nat} {a_t_calls : Nat} {a_t_latest : Nat} {a_t_differ : Nat} {x1 : Int32} {t_own : Int32} {t_tableSize : Int32} {t_first : Nat → Int32} {t_table : Nat → Int32} {t_given : Int32} {t_depth : Int32} {t_steps : Int32} {t_taken : Int32} {t_shown : Int32} {t_outcome : Int32} {N : Nat} (hC : g_C p s m meth c args cX8_analyse 5 (some .int) RX8) :
    ∀ (n : Nat) (x2 : Int32) (t_code : Int32) (t_count : Int32) (t_known : Int32) (t_news : Int32) (t_parameters : Nat → Int32) (t_length : Nat → Int32) (t_newLength : Nat → Int32) (t_now : Nat → Int32) (t_anew : Nat → Int32) (t_met : Nat → Int32) (t_any : Nat → Int32) (t_number : Nat → Int32) (t_outAny : Nat → Int32) (t_out : Nat → Int32) (out : Int32 × Int32 × Int32 × Int32 × Int32 × (Nat → Int32) × (Nat → Int32) × (Nat → Int32) × (Nat → Int32) × (Nat → Int32) × (Nat → Int32) × (Nat → Int32) × (Nat → Int32) × (Nat → Int32) × (Nat → Int32)), f_X8_analyse_49 N x1 t_own t_tableSize t_first t_table n x2 t_code t_count t_known t_news t_parameters t_length t_newLength t_now t_anew t_met t_any t_number t_outAny t_out = some out → ∀ (H : Heap) (locs : List Loc) (ls : Array Slot), g_W tA dC dI cI cZ cJ A s H locs (w_X8_analyse cI cZ cJ a_t a_t_parameters a_t_length a_t_newLength a_t_first a_t_now a_t_anew a_t_table a_t_met a_t_any a_t_number a_t_outAny a_t_out a_t_inputs a_t_at a_t_in a_t_back a_t_register a_t_output a_t_calls a_t_latest a_t_differ t_code t_own t_count t_tableSize t_given t_known t_news t_depth t_steps t_taken t_shown t_outcome t_parameters t_length t_newLength t_first t_now t_anew t_table t_met t_any t_number t_outAny t_out) → lv_has ls 5 [(0, .ref a_t), (1, .int x1), (2, .int x2)] → W p l e r_X8_analyse s m args below meth c H locs 0 0 (MQ below (g_Qi dC dI cI cZ cJ A (w_X8_analyse cI cZ cJ a_t a_t_parameters a_t_length a_t_newLength a_t_first a_t_now a_t_anew a_t_table a_t_met a_t_any a_t_number a_t_outAny a_t_out a_t_inputs a_t_at a_t_in a_t_back a_t_register a_t_output a_t_calls a_t_latest a_t_differ out.2.1 t_own out.2.2.1 t_tableSize t_given out.2.2.2.1 out.2.2.2.2.1 t_depth t_steps t_taken t_shown t_outcome out.2.2.2.2.2.1 out.2.2.2.2.2.2.1 out.2.2.2.2.2.2.2.1 t_first out.2.2.2.2.2.2.2.2.1 out.2.2.2.2.2.2.2.2.2.1 t_table out.2.2.2.2.2.2.2.2.2.2.1 out.2.2.2.2.2.2.2.2.2.2.2.1 out.2.2.2.2.2.2.2.2.2.2.2.2.1 out.2.2.2.2.2.2.2.2.2.2.2.2.2.1 out.2.2.2.2.2.2.2.2.2.2.2.2.2.2) out.1) args s 0 0 A) (F0 m 49 ls []) := by
  have hx := hC.1
  have hb := hC.2.1
  have hown := hC.2.2.2.2.1
  have hts := hC.2.2.2.2.2.1
  intro n
  induction n with
  | zero =>
    intro x2 t_code t_count t_known t_news t_parameters t_length t_newLength t_now t_anew t_met t_any t_number t_outAny t_out out hf
    exact g_no hf
  | succ n ih =>
    intro x2 t_code t_count t_known t_news t_parameters t_length t_newLength t_now t_anew t_met t_any t_number t_outAny t_out out hf H locs ls hW hl
    refine lv_iload_n hx hb dX8_analyse_49 rfl (lv_at hl 2 rfl) ?_
    refine lv_bipush (v := 96) hx hb dX8_analyse_50 (by decide) ?_
    refine lv_aload_n hx hb dX8_analyse_52 rfl (lv_at hl 0 rfl) ?_
    refine gs_get hC hW in_X8 0 1 rfl rfl (by decide) fl_X8_82 rfl dX8_analyse_53 ?_
    refine lv_imul hx hb dX8_analyse_56 ?_
    refine lv_icmp_ge (tgt := 78) hx hb dX8_analyse_57 (by decide) (fun c15 => ?_) (fun c15 => ?_)
    · replace hf := (if_pos c15).symm.trans hf
      refine lv_aload_n hx hb dX8_analyse_78 rfl (lv_at hl 0 rfl) ?_
      obtain ⟨o16, h16, hf⟩ := g_bnd hf
      refine gs_callVv (ws' := w_X8_analyse cI cZ cJ a_t a_t_parameters a_t_length a_t_newLength a_t_first a_t_now a_t_anew a_t_table a_t_met a_t_any a_t_number a_t_outAny a_t_out a_t_inputs a_t_at a_t_in a_t_back a_t_register a_t_output a_t_calls a_t_latest a_t_differ t_code t_own t_count t_tableSize t_given t_known o16.1 t_depth t_steps t_taken t_shown t_outcome t_parameters t_length t_newLength t_first t_now t_anew t_table o16.2.1 o16.2.2.1 o16.2.2.2.1 o16.2.2.2.2.1 o16.2.2.2.2.2) hC hW (k_X8_learn l tA dC dI cI cZ cJ a_t a_t_parameters a_t_length a_t_now a_t_table a_t_met a_t_any a_t_number a_t_outAny a_t_out a_t_newLength a_t_first a_t_anew a_t_inputs a_t_at a_t_in a_t_back a_t_register a_t_output a_t_calls a_t_latest a_t_differ N t_code t_own t_count t_tableSize t_given t_known t_news t_depth t_steps t_taken t_shown t_outcome t_parameters t_length t_now t_table t_met t_any t_number t_outAny t_out _ h16) yk_X8_learn lk_X8_164 iv_X8_learn ⟨rfl, rfl⟩ ⟨Nat.le_of_ble_eq_true rfl, Nat.le_of_ble_eq_true rfl⟩ hl.1 0 rfl rfl [0, 1, 2, 5, 7, 8, 9, 10, 11, 12] [3, 4, 6] [3, 4, 5, 0, 1, 6, 2, 7, 8, 9, 10, 11, 12] rfl rfl rfl rfl (by decide) rfl rfl rfl rfl (Nat.le_of_ble_eq_true rfl) dX8_analyse_79 ⟨Nat.zero_le _, Nat.zero_le _⟩ (fun H locs hW => ?_)
      exact b_X8_analyse_82 hC N _ _ _ _ _ _ _ _ _ _ _ _ _ _ _ hf _ _ _ hW (lv_sub hl [0, 1] rfl)
    · replace hf := (if_neg c15).symm.trans hf
      refine lv_aload_n hx hb dX8_analyse_60 rfl (lv_at hl 0 rfl) ?_
      refine gs_get hC hW in_X8 0 7 rfl rfl (by decide) fl_X8_22 rfl dX8_analyse_61 ?_
      refine lv_iload_n hx hb dX8_analyse_64 rfl (lv_at hl 2 rfl) ?_
      refine lv_aload_n hx hb dX8_analyse_65 rfl (lv_at hl 0 rfl) ?_
      refine gs_get hC hW in_X8 0 6 rfl rfl (by decide) fl_X8_19 rfl dX8_analyse_66 ?_
      refine lv_iload_n hx hb dX8_analyse_69 rfl (lv_at hl 2 rfl) ?_
      obtain ⟨v17, h17, hf⟩ := g_bnd hf
      refine gs_iald hC hW 4 h17 rfl dX8_analyse_70 ?_
      obtain ⟨s18, h18, hf⟩ := g_bnd hf
      refine gs_iast (ws' := w_X8_analyse cI cZ cJ a_t a_t_parameters a_t_length a_t_newLength a_t_first a_t_now a_t_anew a_t_table a_t_met a_t_any a_t_number a_t_outAny a_t_out a_t_inputs a_t_at a_t_in a_t_back a_t_register a_t_output a_t_calls a_t_latest a_t_differ t_code t_own t_count t_tableSize t_given t_known t_news t_depth t_steps t_taken t_shown t_outcome t_parameters t_length t_newLength t_first s18 t_anew t_table t_met t_any t_number t_outAny t_out) hC hW 5 h18 rfl rfl dX8_analyse_71 (fun H locs hW => ?_)
      refine lv_iinc (v := x2 + 1) (lv' := [(2, .int (x2 + 1)), (0, .ref a_t), (1, .int x1)]) hx hb dX8_analyse_72 hl (k := 2) rfl rfl (by decide) rfl (fun ls hl => ?_)
      refine lv_goto (tgt := 49) hx hb dX8_analyse_75 (by decide) ?_
      exact ih _ _ _ _ _ _ _ _ _ _ _ _ _ _ _ _ hf _ _ _ hW (lv_sub hl [1, 2, 0] rfl)
def f_X8_analyse_11 (N : Nat) (x1 : Int32) (t_own : Int32) (t_tableSize : Int32) (t_first : Nat → Int32) (t_table : Nat → Int32) (t_code : Int32) (t_count : Int32) (t_known : Int32) (t_news : Int32) (t_parameters : Nat → Int32) (t_length : Nat → Int32) (t_newLength : Nat → Int32) (t_now : Nat → Int32) (t_anew : Nat → Int32) (t_met : Nat → Int32) (t_any : Nat → Int32) (t_number : Nat → Int32) (t_outAny : Nat → Int32) (t_out : Nat → Int32) : Option (Int32 × Int32 × Int32 × Int32 × Int32 × (Nat → Int32) × (Nat → Int32) × (Nat → Int32) × (Nat → Int32) × (Nat → Int32) × (Nat → Int32) × (Nat → Int32) × (Nat → Int32) × (Nat → Int32) × (Nat → Int32)) := some (0, 1, t_count, t_known, t_news, t_parameters, t_length, t_newLength, t_now, t_anew, t_met, t_any, t_number, t_outAny, t_out)
set_option maxHeartbeats 4000000 in
set_option maxRecDepth 100000 in
theorem b_X8_analyse_11 {p : Program} {l : Launch} {e : Env} {s : State} {m : MethodId} {args : Array Value} {below : List Frame} {meth : Method} {c : Code} {tA : Nat} {dC : Nat → ClassId} {dI : Nat → Nat → Nat} {cI cZ cJ : ClassId} {A : Nat → Prop} {a_t : Nat} {a_t_parameters : Nat} {a_t_length : Nat} {a_t_newLength : Nat} {a_t_first : Nat} {a_t_now : Nat} {a_t_anew : Nat} {a_t_table : Nat} {a_t_met : Nat} {a_t_any : Nat} {a_t_number : Nat} {a_t_outAny : Nat} {a_t_out : Nat} {a_t_inputs : Nat} {a_t_at : Nat} {a_t_in : Nat} {a_t_back : Nat} {a_t_register : Nat} {a_t_output : Nat} {a_t_calls : Nat} {a_t_latest : Nat} {a_t_differ : Nat} {x1 : Int32} {t_own : Int32} {t_tableSize : Int32} {t_first : Nat → Int32} {t_table : Nat → Int32} {t_given : Int32} {t_depth : Int32} {t_steps : Int32} {t_taken : Int32} {t_shown : Int32} {t_outcome : Int32} {N : Nat} {t_code : Int32} {t_count : Int32} {t_known : Int32} {t_news : Int32} {t_parameters : Nat → Int32} {t_length : Nat → Int32} {t_newLength : Nat → Int32} {t_now : Nat → Int32} {t_anew : Nat → Int32} {t_met : Nat → Int32} {t_any : Nat → Int32} {t_number : Nat → Int32} {t_outAny : Nat → Int32} {t_out : Nat → Int32} {out : Int32 × Int32 × Int32 × Int32 × Int32 × (Nat → Int32) × (Nat → Int32) × (Nat → Int32) × (Nat → Int32) × (Nat → Int32) × (Nat → Int32) × (Nat → Int32) × (Nat → Int32) × (Nat → Int32) × (Nat → Int32)} (hC : g_C p s m meth c args cX8_analyse 5 (some .int) RX8) (hf : f_X8_analyse_11 N x1 t_own t_tableSize t_first t_table t_code t_count t_known t_news t_parameters t_length t_newLength t_now t_anew t_met t_any t_number t_outAny t_out = some out) {H : Heap} {locs : List Loc} {ls : Array Slot} (hW : g_W tA dC dI cI cZ cJ A s H locs (w_X8_analyse cI cZ cJ a_t a_t_parameters a_t_length a_t_newLength a_t_first a_t_now a_t_anew a_t_table a_t_met a_t_any a_t_number a_t_outAny a_t_out a_t_inputs a_t_at a_t_in a_t_back a_t_register a_t_output a_t_calls a_t_latest a_t_differ t_code t_own t_count t_tableSize t_given t_known t_news t_depth t_steps t_taken t_shown t_outcome t_parameters t_length t_newLength t_first t_now t_anew t_table t_met t_any t_number t_outAny t_out)) (hl : lv_has ls 5 [(0, .ref a_t), (1, .int x1)]) : W p l e r_X8_analyse s m args below meth c H locs 0 0 (MQ below (g_Qi dC dI cI cZ cJ A (w_X8_analyse cI cZ cJ a_t a_t_parameters a_t_length a_t_newLength a_t_first a_t_now a_t_anew a_t_table a_t_met a_t_any a_t_number a_t_outAny a_t_out a_t_inputs a_t_at a_t_in a_t_back a_t_register a_t_output a_t_calls a_t_latest a_t_differ out.2.1 t_own out.2.2.1 t_tableSize t_given out.2.2.2.1 out.2.2.2.2.1 t_depth t_steps t_taken t_shown t_outcome out.2.2.2.2.2.1 out.2.2.2.2.2.2.1 out.2.2.2.2.2.2.2.1 t_first out.2.2.2.2.2.2.2.2.1 out.2.2.2.2.2.2.2.2.2.1 t_table out.2.2.2.2.2.2.2.2.2.2.1 out.2.2.2.2.2.2.2.2.2.2.2.1 out.2.2.2.2.2.2.2.2.2.2.2.2.1 out.2.2.2.2.2.2.2.2.2.2.2.2.2.1 out.2.2.2.2.2.2.2.2.2.2.2.2.2.2) out.1) args s 0 0 A) (F0 m 11 ls [.ref a_t]) := by
  have hx := hC.1
  have hb := hC.2.1
  have hown := hC.2.2.2.2.1
  have hts := hC.2.2.2.2.2.1
  unfold f_X8_analyse_11 at hf
  refine lv_iconst (v := 1) hx hb dX8_analyse_11 (by decide) ?_
  refine lv_goto (tgt := 27) hx hb dX8_analyse_12 (by decide) ?_
  refine gs_put (ws' := w_X8_analyse cI cZ cJ a_t a_t_parameters a_t_length a_t_newLength a_t_first a_t_now a_t_anew a_t_table a_t_met a_t_any a_t_number a_t_outAny a_t_out a_t_inputs a_t_at a_t_in a_t_back a_t_register a_t_output a_t_calls a_t_latest a_t_differ 1 t_own t_count t_tableSize t_given t_known t_news t_depth t_steps t_taken t_shown t_outcome t_parameters t_length t_newLength t_first t_now t_anew t_table t_met t_any t_number t_outAny t_out) hC hW in_X8 tyX8_ok nmX8 0 0 rfl rfl (by decide) fl_X8_74 rfl rfl rfl (Nat.le_of_ble_eq_true rfl) rfl dX8_analyse_27 (fun H locs hW => ?_)
  refine lv_aload_n hx hb dX8_analyse_30 rfl (lv_at hl 0 rfl) ?_
  refine gs_get hC hW in_X8 0 0 rfl rfl (by decide) fl_X8_74 rfl dX8_analyse_31 ?_
  refine lv_if_le (tgt := 39) hx hb dX8_analyse_34 (by decide) (fun c19 => absurd c19 (by decide)) (fun c19 => ?_)
  refine lv_iconst (v := 0) hx hb dX8_analyse_37 (by decide) ?_
  obtain rfl := Option.some.inj hf
  exact gs_ri hC hW rfl dX8_analyse_38
def f_X8_analyse (N : Nat) (x1 : Int32) (t_code : Int32) (t_own : Int32) (t_count : Int32) (t_tableSize : Int32) (t_known : Int32) (t_news : Int32) (t_parameters : Nat → Int32) (t_length : Nat → Int32) (t_newLength : Nat → Int32) (t_first : Nat → Int32) (t_now : Nat → Int32) (t_anew : Nat → Int32) (t_table : Nat → Int32) (t_met : Nat → Int32) (t_any : Nat → Int32) (t_number : Nat → Int32) (t_outAny : Nat → Int32) (t_out : Nat → Int32) : Option (Int32 × Int32 × Int32 × Int32 × Int32 × (Nat → Int32) × (Nat → Int32) × (Nat → Int32) × (Nat → Int32) × (Nat → Int32) × (Nat → Int32) × (Nat → Int32) × (Nat → Int32) × (Nat → Int32) × (Nat → Int32)) := if x1 < 0 then f_X8_analyse_11 N x1 t_own t_tableSize t_first t_table t_code t_count t_known t_news t_parameters t_length t_newLength t_now t_anew t_met t_any t_number t_outAny t_out else if x1 ≤ 6 then if t_own = 0 then some (0, 2, t_count, t_known, t_news, t_parameters, t_length, t_newLength, t_now, t_anew, t_met, t_any, t_number, t_outAny, t_out) else f_X8_analyse_49 N x1 t_own t_tableSize t_first t_table N 0 0 t_own t_known t_news t_parameters t_length t_newLength t_now t_anew t_met t_any t_number t_outAny t_out else f_X8_analyse_11 N x1 t_own t_tableSize t_first t_table t_code t_count t_known t_news t_parameters t_length t_newLength t_now t_anew t_met t_any t_number t_outAny t_out
set_option maxHeartbeats 4000000 in
set_option maxRecDepth 100000 in
theorem k_X8_analyse (l : Launch) (tA : Nat) (dC : Nat → ClassId) (dI : Nat → Nat → Nat) (cI cZ cJ : ClassId) (a_t : Nat) (a_t_parameters : Nat) (a_t_length : Nat) (a_t_newLength : Nat) (a_t_first : Nat) (a_t_now : Nat) (a_t_anew : Nat) (a_t_table : Nat) (a_t_met : Nat) (a_t_any : Nat) (a_t_number : Nat) (a_t_outAny : Nat) (a_t_out : Nat) (a_t_inputs : Nat) (a_t_at : Nat) (a_t_in : Nat) (a_t_back : Nat) (a_t_register : Nat) (a_t_output : Nat) (a_t_calls : Nat) (a_t_latest : Nat) (a_t_differ : Nat) (N : Nat) (x1 : Int32) (t_code : Int32) (t_own : Int32) (t_count : Int32) (t_tableSize : Int32) (t_given : Int32) (t_known : Int32) (t_news : Int32) (t_depth : Int32) (t_steps : Int32) (t_taken : Int32) (t_shown : Int32) (t_outcome : Int32) (t_parameters : Nat → Int32) (t_length : Nat → Int32) (t_newLength : Nat → Int32) (t_first : Nat → Int32) (t_now : Nat → Int32) (t_anew : Nat → Int32) (t_table : Nat → Int32) (t_met : Nat → Int32) (t_any : Nat → Int32) (t_number : Nat → Int32) (t_outAny : Nat → Int32) (t_out : Nat → Int32) (out : Int32 × Int32 × Int32 × Int32 × Int32 × (Nat → Int32) × (Nat → Int32) × (Nat → Int32) × (Nat → Int32) × (Nat → Int32) × (Nat → Int32) × (Nat → Int32) × (Nat → Int32) × (Nat → Int32) × (Nat → Int32)) (hf : f_X8_analyse N x1 t_code t_own t_count t_tableSize t_known t_news t_parameters t_length t_newLength t_first t_now t_anew t_table t_met t_any t_number t_outAny t_out = some out) : g_Mi l yX8_analyse cX8_analyse 5 (some .int) r_X8_analyse tA dC dI cI cZ cJ [.ref a_t, .int x1] (w_X8_analyse cI cZ cJ a_t a_t_parameters a_t_length a_t_newLength a_t_first a_t_now a_t_anew a_t_table a_t_met a_t_any a_t_number a_t_outAny a_t_out a_t_inputs a_t_at a_t_in a_t_back a_t_register a_t_output a_t_calls a_t_latest a_t_differ t_code t_own t_count t_tableSize t_given t_known t_news t_depth t_steps t_taken t_shown t_outcome t_parameters t_length t_newLength t_first t_now t_anew t_table t_met t_any t_number t_outAny t_out) (w_X8_analyse cI cZ cJ a_t a_t_parameters a_t_length a_t_newLength a_t_first a_t_now a_t_anew a_t_table a_t_met a_t_any a_t_number a_t_outAny a_t_out a_t_inputs a_t_at a_t_in a_t_back a_t_register a_t_output a_t_calls a_t_latest a_t_differ out.2.1 t_own out.2.2.1 t_tableSize t_given out.2.2.2.1 out.2.2.2.2.1 t_depth t_steps t_taken t_shown t_outcome out.2.2.2.2.2.1 out.2.2.2.2.2.2.1 out.2.2.2.2.2.2.2.1 t_first out.2.2.2.2.2.2.2.2.1 out.2.2.2.2.2.2.2.2.2.1 t_table out.2.2.2.2.2.2.2.2.2.2.1 out.2.2.2.2.2.2.2.2.2.2.2.1 out.2.2.2.2.2.2.2.2.2.2.2.2.1 out.2.2.2.2.2.2.2.2.2.2.2.2.2.1 out.2.2.2.2.2.2.2.2.2.2.2.2.2.2) out.1 := by
  unfold f_X8_analyse at hf
  refine ge_i (by decide) (Nat.le_of_ble_eq_true rfl) (fun p e s m below meth c A H locs ls hC hW hl => ?_)
  have hC : g_C p s m meth c _ cX8_analyse 5 (some .int) RX8 := hC
  have hx := hC.1
  have hb := hC.2.1
  have hown := hC.2.2.2.2.1
  have hts := hC.2.2.2.2.2.1
  have hl : lv_has ls 5 [(0, .ref a_t), (1, .int x1)] := hl
  refine lv_aload_n hx hb dX8_analyse_0 rfl (lv_at hl 0 rfl) ?_
  refine lv_iload_n hx hb dX8_analyse_1 rfl (lv_at hl 1 rfl) ?_
  refine lv_if_lt (tgt := 11) hx hb dX8_analyse_2 (by decide) (fun c20 => ?_) (fun c20 => ?_)
  · replace hf := (if_pos c20).symm.trans hf
    exact b_X8_analyse_11 hC hf hW (lv_sub hl [0, 1] rfl)
  · replace hf := (if_neg c20).symm.trans hf
    refine lv_iload_n hx hb dX8_analyse_5 rfl (lv_at hl 1 rfl) ?_
    refine lv_bipush (v := 6) hx hb dX8_analyse_6 (by decide) ?_
    refine lv_icmp_le (tgt := 15) hx hb dX8_analyse_8 (by decide) (fun c21 => ?_) (fun c21 => ?_)
    · replace hf := (if_pos c21).symm.trans hf
      refine lv_aload_n hx hb dX8_analyse_15 rfl (lv_at hl 0 rfl) ?_
      refine gs_get hC hW in_X8 0 1 rfl rfl (by decide) fl_X8_82 rfl dX8_analyse_16 ?_
      refine lv_if_ne (tgt := 26) hx hb dX8_analyse_19 (by decide) (fun c22 => ?_) (fun c22 => ?_)
      · replace hf := (if_neg c22).symm.trans hf
        refine lv_iconst (v := 0) hx hb dX8_analyse_26 (by decide) ?_
        refine gs_put (ws' := w_X8_analyse cI cZ cJ a_t a_t_parameters a_t_length a_t_newLength a_t_first a_t_now a_t_anew a_t_table a_t_met a_t_any a_t_number a_t_outAny a_t_out a_t_inputs a_t_at a_t_in a_t_back a_t_register a_t_output a_t_calls a_t_latest a_t_differ 0 t_own t_count t_tableSize t_given t_known t_news t_depth t_steps t_taken t_shown t_outcome t_parameters t_length t_newLength t_first t_now t_anew t_table t_met t_any t_number t_outAny t_out) hC hW in_X8 tyX8_ok nmX8 0 0 rfl rfl (by decide) fl_X8_74 rfl rfl rfl (Nat.le_of_ble_eq_true rfl) rfl dX8_analyse_27 (fun H locs hW => ?_)
        refine lv_aload_n hx hb dX8_analyse_30 rfl (lv_at hl 0 rfl) ?_
        refine gs_get hC hW in_X8 0 0 rfl rfl (by decide) fl_X8_74 rfl dX8_analyse_31 ?_
        refine lv_if_le (tgt := 39) hx hb dX8_analyse_34 (by decide) (fun c23 => ?_) (fun c23 => absurd c23 (by decide))
        refine lv_aload_n hx hb dX8_analyse_39 rfl (lv_at hl 0 rfl) ?_
        refine lv_aload_n hx hb dX8_analyse_40 rfl (lv_at hl 0 rfl) ?_
        refine gs_get hC hW in_X8 0 1 rfl rfl (by decide) fl_X8_82 rfl dX8_analyse_41 ?_
        refine gs_put (ws' := w_X8_analyse cI cZ cJ a_t a_t_parameters a_t_length a_t_newLength a_t_first a_t_now a_t_anew a_t_table a_t_met a_t_any a_t_number a_t_outAny a_t_out a_t_inputs a_t_at a_t_in a_t_back a_t_register a_t_output a_t_calls a_t_latest a_t_differ 0 t_own t_own t_tableSize t_given t_known t_news t_depth t_steps t_taken t_shown t_outcome t_parameters t_length t_newLength t_first t_now t_anew t_table t_met t_any t_number t_outAny t_out) hC hW in_X8 tyX8_ok nmX8 0 2 rfl rfl (by decide) fl_X8_85 rfl rfl rfl (Nat.le_of_ble_eq_true rfl) rfl dX8_analyse_44 (fun H locs hW => ?_)
        refine lv_iconst (v := 0) hx hb dX8_analyse_47 (by decide) ?_
        refine lv_istore_n (lv' := [(2, .int 0), (0, .ref a_t), (1, .int x1)]) hx hb dX8_analyse_48 rfl hl (by decide) rfl (fun ls hl => ?_)
        exact b_X8_analyse_49 hC N _ _ _ _ _ _ _ _ _ _ _ _ _ _ _ _ hf _ _ _ hW (lv_sub hl [1, 2, 0] rfl)
      · replace hf := (if_pos c22).symm.trans hf
        refine lv_iconst (v := 2) hx hb dX8_analyse_22 (by decide) ?_
        refine lv_goto (tgt := 27) hx hb dX8_analyse_23 (by decide) ?_
        refine gs_put (ws' := w_X8_analyse cI cZ cJ a_t a_t_parameters a_t_length a_t_newLength a_t_first a_t_now a_t_anew a_t_table a_t_met a_t_any a_t_number a_t_outAny a_t_out a_t_inputs a_t_at a_t_in a_t_back a_t_register a_t_output a_t_calls a_t_latest a_t_differ 2 t_own t_count t_tableSize t_given t_known t_news t_depth t_steps t_taken t_shown t_outcome t_parameters t_length t_newLength t_first t_now t_anew t_table t_met t_any t_number t_outAny t_out) hC hW in_X8 tyX8_ok nmX8 0 0 rfl rfl (by decide) fl_X8_74 rfl rfl rfl (Nat.le_of_ble_eq_true rfl) rfl dX8_analyse_27 (fun H locs hW => ?_)
        refine lv_aload_n hx hb dX8_analyse_30 rfl (lv_at hl 0 rfl) ?_
        refine gs_get hC hW in_X8 0 0 rfl rfl (by decide) fl_X8_74 rfl dX8_analyse_31 ?_
        refine lv_if_le (tgt := 39) hx hb dX8_analyse_34 (by decide) (fun c24 => absurd c24 (by decide)) (fun c24 => ?_)
        refine lv_iconst (v := 0) hx hb dX8_analyse_37 (by decide) ?_
        obtain rfl := Option.some.inj hf
        exact gs_ri hC hW rfl dX8_analyse_38
    · replace hf := (if_neg c21).symm.trans hf
      exact b_X8_analyse_11 hC hf hW (lv_sub hl [0, 1] rfl)

abbrev w_X8_functions (cI cZ cJ : ClassId) (a_t : Nat) (a_t_parameters : Nat) (a_t_length : Nat) (a_t_newLength : Nat) (a_t_first : Nat) (a_t_now : Nat) (a_t_anew : Nat) (a_t_table : Nat) (a_t_inputs : Nat) (a_t_met : Nat) (a_t_any : Nat) (a_t_number : Nat) (a_t_outAny : Nat) (a_t_out : Nat) (a_t_at : Nat) (a_t_in : Nat) (a_t_back : Nat) (a_t_register : Nat) (a_t_output : Nat) (a_t_calls : Nat) (a_t_latest : Nat) (a_t_differ : Nat) (t_code : Int32) (t_own : Int32) (t_count : Int32) (t_tableSize : Int32) (t_given : Int32) (t_known : Int32) (t_news : Int32) (t_depth : Int32) (t_steps : Int32) (t_taken : Int32) (t_shown : Int32) (t_outcome : Int32) : va_W := [(a_t, .inr (8, [.int t_code, .int t_own, .int t_count, .ref a_t_parameters, .ref a_t_length, .ref a_t_newLength, .ref a_t_first, .ref a_t_now, .ref a_t_anew, .int t_tableSize, .ref a_t_table, .int t_given, .ref a_t_inputs, .int t_known, .ref a_t_met, .ref a_t_any, .ref a_t_number, .int t_news, .ref a_t_outAny, .ref a_t_out, .int t_depth, .int t_steps, .int t_taken, .int t_shown, .ref a_t_at, .ref a_t_in, .ref a_t_back, .ref a_t_register, .ref a_t_output, .ref a_t_calls, .ref a_t_latest, .ref a_t_differ, .int t_outcome]))]
abbrev r_X8_functions : Room := { frames := 0, cells := 0, slots := 0, locals := 0 }
def f_X8_functions (t_code : Int32) (t_count : Int32) : Option (Int32 × Int32) := some (t_count, 0)
set_option maxHeartbeats 4000000 in
set_option maxRecDepth 100000 in
theorem k_X8_functions (l : Launch) (tA : Nat) (dC : Nat → ClassId) (dI : Nat → Nat → Nat) (cI cZ cJ : ClassId) (a_t : Nat) (a_t_parameters : Nat) (a_t_length : Nat) (a_t_newLength : Nat) (a_t_first : Nat) (a_t_now : Nat) (a_t_anew : Nat) (a_t_table : Nat) (a_t_inputs : Nat) (a_t_met : Nat) (a_t_any : Nat) (a_t_number : Nat) (a_t_outAny : Nat) (a_t_out : Nat) (a_t_at : Nat) (a_t_in : Nat) (a_t_back : Nat) (a_t_register : Nat) (a_t_output : Nat) (a_t_calls : Nat) (a_t_latest : Nat) (a_t_differ : Nat) (t_code : Int32) (t_own : Int32) (t_count : Int32) (t_tableSize : Int32) (t_given : Int32) (t_known : Int32) (t_news : Int32) (t_depth : Int32) (t_steps : Int32) (t_taken : Int32) (t_shown : Int32) (t_outcome : Int32) (out : Int32 × Int32) (hf : f_X8_functions t_code t_count = some out) : g_Mi l yX8_functions cX8_functions 1 (some .int) r_X8_functions tA dC dI cI cZ cJ [.ref a_t] (w_X8_functions cI cZ cJ a_t a_t_parameters a_t_length a_t_newLength a_t_first a_t_now a_t_anew a_t_table a_t_inputs a_t_met a_t_any a_t_number a_t_outAny a_t_out a_t_at a_t_in a_t_back a_t_register a_t_output a_t_calls a_t_latest a_t_differ t_code t_own t_count t_tableSize t_given t_known t_news t_depth t_steps t_taken t_shown t_outcome) (w_X8_functions cI cZ cJ a_t a_t_parameters a_t_length a_t_newLength a_t_first a_t_now a_t_anew a_t_table a_t_inputs a_t_met a_t_any a_t_number a_t_outAny a_t_out a_t_at a_t_in a_t_back a_t_register a_t_output a_t_calls a_t_latest a_t_differ out.2 t_own t_count t_tableSize t_given t_known t_news t_depth t_steps t_taken t_shown t_outcome) out.1 := by
  unfold f_X8_functions at hf
  refine ge_i (by decide) (Nat.le_of_ble_eq_true rfl) (fun p e s m below meth c A H locs ls hC hW hl => ?_)
  have hC : g_C p s m meth c _ cX8_functions 1 (some .int) RX8 := hC
  have hx := hC.1
  have hb := hC.2.1
  have hown := hC.2.2.2.2.1
  have hts := hC.2.2.2.2.2.1
  have hl : lv_has ls 1 [(0, .ref a_t)] := hl
  refine lv_aload_n hx hb dX8_functions_0 rfl (lv_at hl 0 rfl) ?_
  refine lv_iconst (v := 0) hx hb dX8_functions_1 (by decide) ?_
  refine gs_put (ws' := w_X8_functions cI cZ cJ a_t a_t_parameters a_t_length a_t_newLength a_t_first a_t_now a_t_anew a_t_table a_t_inputs a_t_met a_t_any a_t_number a_t_outAny a_t_out a_t_at a_t_in a_t_back a_t_register a_t_output a_t_calls a_t_latest a_t_differ 0 t_own t_count t_tableSize t_given t_known t_news t_depth t_steps t_taken t_shown t_outcome) hC hW in_X8 tyX8_ok nmX8 0 0 rfl rfl (by decide) fl_X8_74 rfl rfl rfl (Nat.le_of_ble_eq_true rfl) rfl dX8_functions_2 (fun H locs hW => ?_)
  refine lv_aload_n hx hb dX8_functions_5 rfl (lv_at hl 0 rfl) ?_
  refine gs_get hC hW in_X8 0 2 rfl rfl (by decide) fl_X8_85 rfl dX8_functions_6 ?_
  obtain rfl := Option.some.inj hf
  exact gs_ri hC hW rfl dX8_functions_9

abbrev w_X8_find (cI cZ cJ : ClassId) (a_t : Nat) (a_t_length : Nat) (a_t_parameters : Nat) (a_t_newLength : Nat) (a_t_first : Nat) (a_t_now : Nat) (a_t_anew : Nat) (a_t_table : Nat) (a_t_inputs : Nat) (a_t_met : Nat) (a_t_any : Nat) (a_t_number : Nat) (a_t_outAny : Nat) (a_t_out : Nat) (a_t_at : Nat) (a_t_in : Nat) (a_t_back : Nat) (a_t_register : Nat) (a_t_output : Nat) (a_t_calls : Nat) (a_t_latest : Nat) (a_t_differ : Nat) (t_code : Int32) (t_own : Int32) (t_count : Int32) (t_tableSize : Int32) (t_given : Int32) (t_known : Int32) (t_news : Int32) (t_depth : Int32) (t_steps : Int32) (t_taken : Int32) (t_shown : Int32) (t_outcome : Int32) (t_length : Nat → Int32) : va_W := [(a_t, .inr (8, [.int t_code, .int t_own, .int t_count, .ref a_t_parameters, .ref a_t_length, .ref a_t_newLength, .ref a_t_first, .ref a_t_now, .ref a_t_anew, .int t_tableSize, .ref a_t_table, .int t_given, .ref a_t_inputs, .int t_known, .ref a_t_met, .ref a_t_any, .ref a_t_number, .int t_news, .ref a_t_outAny, .ref a_t_out, .int t_depth, .int t_steps, .int t_taken, .int t_shown, .ref a_t_at, .ref a_t_in, .ref a_t_back, .ref a_t_register, .ref a_t_output, .ref a_t_calls, .ref a_t_latest, .ref a_t_differ, .int t_outcome])), (a_t_length, .inl (cI, 12, .inl t_length))]
abbrev r_X8_find : Room := { frames := 0, cells := 0, slots := 0, locals := 0 }
def f_X8_find_49 (x1 : Int32) (x2 : Int32) (x3 : Int32) (t_count : Int32) (t_known : Int32) (t_length : Nat → Int32) (z0 : Int32) (t_code : Int32) : Option (Int32 × Int32) := if z0 ≤ 0 then (g_rd 12 t_length x1).bind (fun v2 => if x2 ≤ v2 then some (((6 * ((17 * x1) + x2)) + x3), z0) else (g_rd 12 t_length x1).bind (fun v4 => some (((6 * ((17 * x1) + v4)) + x3), z0))) else some (0, z0)
set_option maxHeartbeats 4000000 in
set_option maxRecDepth 100000 in
theorem b_X8_find_49 {p : Program} {l : Launch} {e : Env} {s : State} {m : MethodId} {args : Array Value} {below : List Frame} {meth : Method} {c : Code} {tA : Nat} {dC : Nat → ClassId} {dI : Nat → Nat → Nat} {cI cZ cJ : ClassId} {A : Nat → Prop} {a_t : Nat} {a_t_length : Nat} {a_t_parameters : Nat} {a_t_newLength : Nat} {a_t_first : Nat} {a_t_now : Nat} {a_t_anew : Nat} {a_t_table : Nat} {a_t_inputs : Nat} {a_t_met : Nat} {a_t_any : Nat} {a_t_number : Nat} {a_t_outAny : Nat} {a_t_out : Nat} {a_t_at : Nat} {a_t_in : Nat} {a_t_back : Nat} {a_t_register : Nat} {a_t_output : Nat} {a_t_calls : Nat} {a_t_latest : Nat} {a_t_differ : Nat} {x1 : Int32} {x2 : Int32} {x3 : Int32} {t_count : Int32} {t_known : Int32} {t_length : Nat → Int32} {t_own : Int32} {t_tableSize : Int32} {t_given : Int32} {t_news : Int32} {t_depth : Int32} {t_steps : Int32} {t_taken : Int32} {t_shown : Int32} {t_outcome : Int32} {z0 : Int32} {t_code : Int32} {out : Int32 × Int32} (hC : g_C p s m meth c args cX8_find 4 (some .int) RX8) (hf : f_X8_find_49 x1 x2 x3 t_count t_known t_length z0 t_code = some out) {H : Heap} {locs : List Loc} {ls : Array Slot} (hW : g_W tA dC dI cI cZ cJ A s H locs (w_X8_find cI cZ cJ a_t a_t_length a_t_parameters a_t_newLength a_t_first a_t_now a_t_anew a_t_table a_t_inputs a_t_met a_t_any a_t_number a_t_outAny a_t_out a_t_at a_t_in a_t_back a_t_register a_t_output a_t_calls a_t_latest a_t_differ t_code t_own t_count t_tableSize t_given t_known t_news t_depth t_steps t_taken t_shown t_outcome t_length)) (hl : lv_has ls 4 [(0, .ref a_t), (1, .int x1), (2, .int x2), (3, .int x3)]) : W p l e r_X8_find s m args below meth c H locs 0 0 (MQ below (g_Qi dC dI cI cZ cJ A (w_X8_find cI cZ cJ a_t a_t_length a_t_parameters a_t_newLength a_t_first a_t_now a_t_anew a_t_table a_t_inputs a_t_met a_t_any a_t_number a_t_outAny a_t_out a_t_at a_t_in a_t_back a_t_register a_t_output a_t_calls a_t_latest a_t_differ out.2 t_own t_count t_tableSize t_given t_known t_news t_depth t_steps t_taken t_shown t_outcome t_length) out.1) args s 0 0 A) (F0 m 49 ls [.int z0, .ref a_t]) := by
  have hx := hC.1
  have hb := hC.2.1
  have hown := hC.2.2.2.2.1
  have hts := hC.2.2.2.2.2.1
  unfold f_X8_find_49 at hf
  refine gs_put (ws' := w_X8_find cI cZ cJ a_t a_t_length a_t_parameters a_t_newLength a_t_first a_t_now a_t_anew a_t_table a_t_inputs a_t_met a_t_any a_t_number a_t_outAny a_t_out a_t_at a_t_in a_t_back a_t_register a_t_output a_t_calls a_t_latest a_t_differ z0 t_own t_count t_tableSize t_given t_known t_news t_depth t_steps t_taken t_shown t_outcome t_length) hC hW in_X8 tyX8_ok nmX8 0 0 rfl rfl (by decide) fl_X8_74 rfl rfl rfl (Nat.le_of_ble_eq_true rfl) rfl dX8_find_49 (fun H locs hW => ?_)
  refine lv_aload_n hx hb dX8_find_52 rfl (lv_at hl 0 rfl) ?_
  refine gs_get hC hW in_X8 0 0 rfl rfl (by decide) fl_X8_74 rfl dX8_find_53 ?_
  refine lv_if_le (tgt := 63) hx hb dX8_find_56 (by decide) (fun c1 => ?_) (fun c1 => ?_)
  · replace hf := (if_pos c1).symm.trans hf
    refine lv_bipush (v := 6) hx hb dX8_find_63 (by decide) ?_
    refine lv_bipush (v := 17) hx hb dX8_find_65 (by decide) ?_
    refine lv_iload_n hx hb dX8_find_67 rfl (lv_at hl 1 rfl) ?_
    refine lv_imul hx hb dX8_find_68 ?_
    refine lv_iload_n hx hb dX8_find_69 rfl (lv_at hl 2 rfl) ?_
    refine lv_aload_n hx hb dX8_find_70 rfl (lv_at hl 0 rfl) ?_
    refine gs_get hC hW in_X8 0 4 rfl rfl (by decide) fl_X8_13 rfl dX8_find_71 ?_
    refine lv_iload_n hx hb dX8_find_74 rfl (lv_at hl 1 rfl) ?_
    obtain ⟨v2, h2, hf⟩ := g_bnd hf
    refine gs_iald hC hW 1 h2 rfl dX8_find_75 ?_
    refine lv_icmp_le (tgt := 88) hx hb dX8_find_76 (by decide) (fun c3 => ?_) (fun c3 => ?_)
    · replace hf := (if_pos c3).symm.trans hf
      refine lv_iload_n hx hb dX8_find_88 rfl (lv_at hl 2 rfl) ?_
      refine lv_iadd hx hb dX8_find_89 ?_
      refine lv_imul hx hb dX8_find_90 ?_
      refine lv_iload_n hx hb dX8_find_91 rfl (lv_at hl 3 rfl) ?_
      refine lv_iadd hx hb dX8_find_92 ?_
      obtain rfl := Option.some.inj hf
      exact gs_ri hC hW rfl dX8_find_93
    · replace hf := (if_neg c3).symm.trans hf
      refine lv_aload_n hx hb dX8_find_79 rfl (lv_at hl 0 rfl) ?_
      refine gs_get hC hW in_X8 0 4 rfl rfl (by decide) fl_X8_13 rfl dX8_find_80 ?_
      refine lv_iload_n hx hb dX8_find_83 rfl (lv_at hl 1 rfl) ?_
      obtain ⟨v4, h4, hf⟩ := g_bnd hf
      refine gs_iald hC hW 1 h4 rfl dX8_find_84 ?_
      refine lv_goto (tgt := 89) hx hb dX8_find_85 (by decide) ?_
      refine lv_iadd hx hb dX8_find_89 ?_
      refine lv_imul hx hb dX8_find_90 ?_
      refine lv_iload_n hx hb dX8_find_91 rfl (lv_at hl 3 rfl) ?_
      refine lv_iadd hx hb dX8_find_92 ?_
      obtain rfl := Option.some.inj hf
      exact gs_ri hC hW rfl dX8_find_93
  · replace hf := (if_neg c1).symm.trans hf
    refine lv_iconst (v := 0) hx hb dX8_find_59 (by decide) ?_
    refine lv_goto (tgt := 93) hx hb dX8_find_60 (by decide) ?_
    obtain rfl := Option.some.inj hf
    exact gs_ri hC hW rfl dX8_find_93
def f_X8_find (x1 : Int32) (x2 : Int32) (x3 : Int32) (t_code : Int32) (t_count : Int32) (t_known : Int32) (t_length : Nat → Int32) : Option (Int32 × Int32) := if t_known = 0 then f_X8_find_49 x1 x2 x3 t_count t_known t_length 1 t_code else if x1 < 0 then f_X8_find_49 x1 x2 x3 t_count t_known t_length 2 t_code else if t_count ≤ x1 then f_X8_find_49 x1 x2 x3 t_count t_known t_length 2 t_code else if x2 < 0 then f_X8_find_49 x1 x2 x3 t_count t_known t_length 2 t_code else if 16 < x2 then f_X8_find_49 x1 x2 x3 t_count t_known t_length 2 t_code else if x3 < 0 then f_X8_find_49 x1 x2 x3 t_count t_known t_length 2 t_code else if x3 < 6 then f_X8_find_49 x1 x2 x3 t_count t_known t_length 0 t_code else f_X8_find_49 x1 x2 x3 t_count t_known t_length 2 t_code
set_option maxHeartbeats 4000000 in
set_option maxRecDepth 100000 in
theorem k_X8_find (l : Launch) (tA : Nat) (dC : Nat → ClassId) (dI : Nat → Nat → Nat) (cI cZ cJ : ClassId) (a_t : Nat) (a_t_length : Nat) (a_t_parameters : Nat) (a_t_newLength : Nat) (a_t_first : Nat) (a_t_now : Nat) (a_t_anew : Nat) (a_t_table : Nat) (a_t_inputs : Nat) (a_t_met : Nat) (a_t_any : Nat) (a_t_number : Nat) (a_t_outAny : Nat) (a_t_out : Nat) (a_t_at : Nat) (a_t_in : Nat) (a_t_back : Nat) (a_t_register : Nat) (a_t_output : Nat) (a_t_calls : Nat) (a_t_latest : Nat) (a_t_differ : Nat) (x1 : Int32) (x2 : Int32) (x3 : Int32) (t_code : Int32) (t_own : Int32) (t_count : Int32) (t_tableSize : Int32) (t_given : Int32) (t_known : Int32) (t_news : Int32) (t_depth : Int32) (t_steps : Int32) (t_taken : Int32) (t_shown : Int32) (t_outcome : Int32) (t_length : Nat → Int32) (out : Int32 × Int32) (hf : f_X8_find x1 x2 x3 t_code t_count t_known t_length = some out) : g_Mi l yX8_find cX8_find 4 (some .int) r_X8_find tA dC dI cI cZ cJ [.ref a_t, .int x1, .int x2, .int x3] (w_X8_find cI cZ cJ a_t a_t_length a_t_parameters a_t_newLength a_t_first a_t_now a_t_anew a_t_table a_t_inputs a_t_met a_t_any a_t_number a_t_outAny a_t_out a_t_at a_t_in a_t_back a_t_register a_t_output a_t_calls a_t_latest a_t_differ t_code t_own t_count t_tableSize t_given t_known t_news t_depth t_steps t_taken t_shown t_outcome t_length) (w_X8_find cI cZ cJ a_t a_t_length a_t_parameters a_t_newLength a_t_first a_t_now a_t_anew a_t_table a_t_inputs a_t_met a_t_any a_t_number a_t_outAny a_t_out a_t_at a_t_in a_t_back a_t_register a_t_output a_t_calls a_t_latest a_t_differ out.2 t_own t_count t_tableSize t_given t_known t_news t_depth t_steps t_taken t_shown t_outcome t_length) out.1 := by
  unfold f_X8_find at hf
  refine ge_i (by decide) (Nat.le_of_ble_eq_true rfl) (fun p e s m below meth c A H locs ls hC hW hl => ?_)
  have hC : g_C p s m meth c _ cX8_find 4 (some .int) RX8 := hC
  have hx := hC.1
  have hb := hC.2.1
  have hown := hC.2.2.2.2.1
  have hts := hC.2.2.2.2.2.1
  have hl : lv_has ls 4 [(0, .ref a_t), (1, .int x1), (2, .int x2), (3, .int x3)] := hl
  refine lv_aload_n hx hb dX8_find_0 rfl (lv_at hl 0 rfl) ?_
  refine lv_aload_n hx hb dX8_find_1 rfl (lv_at hl 0 rfl) ?_
  refine gs_get hC hW in_X8 0 13 rfl rfl (by decide) fl_X8_78 rfl dX8_find_2 ?_
  refine lv_if_ne (tgt := 12) hx hb dX8_find_5 (by decide) (fun c5 => ?_) (fun c5 => ?_)
  · replace hf := (if_neg c5).symm.trans hf
    refine lv_iload_n hx hb dX8_find_12 rfl (lv_at hl 1 rfl) ?_
    refine lv_if_lt (tgt := 44) hx hb dX8_find_13 (by decide) (fun c6 => ?_) (fun c6 => ?_)
    · replace hf := (if_pos c6).symm.trans hf
      refine lv_iconst (v := 2) hx hb dX8_find_44 (by decide) ?_
      refine lv_goto (tgt := 49) hx hb dX8_find_45 (by decide) ?_
      exact b_X8_find_49 hC hf hW (lv_sub hl [0, 1, 2, 3] rfl)
    · replace hf := (if_neg c6).symm.trans hf
      refine lv_iload_n hx hb dX8_find_16 rfl (lv_at hl 1 rfl) ?_
      refine lv_aload_n hx hb dX8_find_17 rfl (lv_at hl 0 rfl) ?_
      refine gs_get hC hW in_X8 0 2 rfl rfl (by decide) fl_X8_85 rfl dX8_find_18 ?_
      refine lv_icmp_ge (tgt := 44) hx hb dX8_find_21 (by decide) (fun c7 => ?_) (fun c7 => ?_)
      · replace hf := (if_pos c7).symm.trans hf
        refine lv_iconst (v := 2) hx hb dX8_find_44 (by decide) ?_
        refine lv_goto (tgt := 49) hx hb dX8_find_45 (by decide) ?_
        exact b_X8_find_49 hC hf hW (lv_sub hl [0, 1, 2, 3] rfl)
      · replace hf := (if_neg c7).symm.trans hf
        refine lv_iload_n hx hb dX8_find_24 rfl (lv_at hl 2 rfl) ?_
        refine lv_if_lt (tgt := 44) hx hb dX8_find_25 (by decide) (fun c8 => ?_) (fun c8 => ?_)
        · replace hf := (if_pos c8).symm.trans hf
          refine lv_iconst (v := 2) hx hb dX8_find_44 (by decide) ?_
          refine lv_goto (tgt := 49) hx hb dX8_find_45 (by decide) ?_
          exact b_X8_find_49 hC hf hW (lv_sub hl [0, 1, 2, 3] rfl)
        · replace hf := (if_neg c8).symm.trans hf
          refine lv_iload_n hx hb dX8_find_28 rfl (lv_at hl 2 rfl) ?_
          refine lv_bipush (v := 16) hx hb dX8_find_29 (by decide) ?_
          refine lv_icmp_gt (tgt := 44) hx hb dX8_find_31 (by decide) (fun c9 => ?_) (fun c9 => ?_)
          · replace hf := (if_pos c9).symm.trans hf
            refine lv_iconst (v := 2) hx hb dX8_find_44 (by decide) ?_
            refine lv_goto (tgt := 49) hx hb dX8_find_45 (by decide) ?_
            exact b_X8_find_49 hC hf hW (lv_sub hl [0, 1, 2, 3] rfl)
          · replace hf := (if_neg c9).symm.trans hf
            refine lv_iload_n hx hb dX8_find_34 rfl (lv_at hl 3 rfl) ?_
            refine lv_if_lt (tgt := 44) hx hb dX8_find_35 (by decide) (fun c10 => ?_) (fun c10 => ?_)
            · replace hf := (if_pos c10).symm.trans hf
              refine lv_iconst (v := 2) hx hb dX8_find_44 (by decide) ?_
              refine lv_goto (tgt := 49) hx hb dX8_find_45 (by decide) ?_
              exact b_X8_find_49 hC hf hW (lv_sub hl [0, 1, 2, 3] rfl)
            · replace hf := (if_neg c10).symm.trans hf
              refine lv_iload_n hx hb dX8_find_38 rfl (lv_at hl 3 rfl) ?_
              refine lv_bipush (v := 6) hx hb dX8_find_39 (by decide) ?_
              refine lv_icmp_lt (tgt := 48) hx hb dX8_find_41 (by decide) (fun c11 => ?_) (fun c11 => ?_)
              · replace hf := (if_pos c11).symm.trans hf
                refine lv_iconst (v := 0) hx hb dX8_find_48 (by decide) ?_
                exact b_X8_find_49 hC hf hW (lv_sub hl [0, 1, 2, 3] rfl)
              · replace hf := (if_neg c11).symm.trans hf
                refine lv_iconst (v := 2) hx hb dX8_find_44 (by decide) ?_
                refine lv_goto (tgt := 49) hx hb dX8_find_45 (by decide) ?_
                exact b_X8_find_49 hC hf hW (lv_sub hl [0, 1, 2, 3] rfl)
  · replace hf := (if_pos c5).symm.trans hf
    refine lv_iconst (v := 1) hx hb dX8_find_8 (by decide) ?_
    refine lv_goto (tgt := 49) hx hb dX8_find_9 (by decide) ?_
    exact b_X8_find_49 hC hf hW (lv_sub hl [0, 1, 2, 3] rfl)

abbrev w_X8_kind (cI cZ cJ : ClassId) (a_t : Nat) (a_t_length : Nat) (a_t_met : Nat) (a_t_any : Nat) (a_t_parameters : Nat) (a_t_newLength : Nat) (a_t_first : Nat) (a_t_now : Nat) (a_t_anew : Nat) (a_t_table : Nat) (a_t_inputs : Nat) (a_t_number : Nat) (a_t_outAny : Nat) (a_t_out : Nat) (a_t_at : Nat) (a_t_in : Nat) (a_t_back : Nat) (a_t_register : Nat) (a_t_output : Nat) (a_t_calls : Nat) (a_t_latest : Nat) (a_t_differ : Nat) (t_code : Int32) (t_own : Int32) (t_count : Int32) (t_tableSize : Int32) (t_given : Int32) (t_known : Int32) (t_news : Int32) (t_depth : Int32) (t_steps : Int32) (t_taken : Int32) (t_shown : Int32) (t_outcome : Int32) (t_length : Nat → Int32) (t_met : Nat → Int32) (t_any : Nat → Int32) : va_W := [(a_t, .inr (8, [.int t_code, .int t_own, .int t_count, .ref a_t_parameters, .ref a_t_length, .ref a_t_newLength, .ref a_t_first, .ref a_t_now, .ref a_t_anew, .int t_tableSize, .ref a_t_table, .int t_given, .ref a_t_inputs, .int t_known, .ref a_t_met, .ref a_t_any, .ref a_t_number, .int t_news, .ref a_t_outAny, .ref a_t_out, .int t_depth, .int t_steps, .int t_taken, .int t_shown, .ref a_t_at, .ref a_t_in, .ref a_t_back, .ref a_t_register, .ref a_t_output, .ref a_t_calls, .ref a_t_latest, .ref a_t_differ, .int t_outcome])), (a_t_length, .inl (cI, 12, .inl t_length)), (a_t_met, .inl (cZ, 204, .inl t_met)), (a_t_any, .inl (cZ, 1224, .inl t_any))]
abbrev r_X8_kind : Room := { frames := 1, cells := 0, slots := 0, locals := 23 }
def f_X8_kind (x1 : Int32) (x2 : Int32) (x3 : Int32) (t_code : Int32) (t_count : Int32) (t_known : Int32) (t_length : Nat → Int32) (t_met : Nat → Int32) (t_any : Nat → Int32) : Option (Int32 × Int32) := (f_X8_find x1 x2 x3 t_code t_count t_known t_length).bind (fun o1 => if 0 < o1.2 then some (0, o1.2) else (g_dv o1.1 6).bind (fun v3 => (g_rd 204 t_met v3).bind (fun v4 => if v4 = 0 then some (0, o1.2) else (g_rd 1224 t_any o1.1).bind (fun v6 => if v6 = 0 then some (1, o1.2) else some (2, o1.2)))))
set_option maxHeartbeats 4000000 in
set_option maxRecDepth 100000 in
theorem k_X8_kind (l : Launch) (tA : Nat) (dC : Nat → ClassId) (dI : Nat → Nat → Nat) (cI cZ cJ : ClassId) (a_t : Nat) (a_t_length : Nat) (a_t_met : Nat) (a_t_any : Nat) (a_t_parameters : Nat) (a_t_newLength : Nat) (a_t_first : Nat) (a_t_now : Nat) (a_t_anew : Nat) (a_t_table : Nat) (a_t_inputs : Nat) (a_t_number : Nat) (a_t_outAny : Nat) (a_t_out : Nat) (a_t_at : Nat) (a_t_in : Nat) (a_t_back : Nat) (a_t_register : Nat) (a_t_output : Nat) (a_t_calls : Nat) (a_t_latest : Nat) (a_t_differ : Nat) (x1 : Int32) (x2 : Int32) (x3 : Int32) (t_code : Int32) (t_own : Int32) (t_count : Int32) (t_tableSize : Int32) (t_given : Int32) (t_known : Int32) (t_news : Int32) (t_depth : Int32) (t_steps : Int32) (t_taken : Int32) (t_shown : Int32) (t_outcome : Int32) (t_length : Nat → Int32) (t_met : Nat → Int32) (t_any : Nat → Int32) (out : Int32 × Int32) (hf : f_X8_kind x1 x2 x3 t_code t_count t_known t_length t_met t_any = some out) : g_Mi l yX8_kind cX8_kind 5 (some .int) r_X8_kind tA dC dI cI cZ cJ [.ref a_t, .int x1, .int x2, .int x3] (w_X8_kind cI cZ cJ a_t a_t_length a_t_met a_t_any a_t_parameters a_t_newLength a_t_first a_t_now a_t_anew a_t_table a_t_inputs a_t_number a_t_outAny a_t_out a_t_at a_t_in a_t_back a_t_register a_t_output a_t_calls a_t_latest a_t_differ t_code t_own t_count t_tableSize t_given t_known t_news t_depth t_steps t_taken t_shown t_outcome t_length t_met t_any) (w_X8_kind cI cZ cJ a_t a_t_length a_t_met a_t_any a_t_parameters a_t_newLength a_t_first a_t_now a_t_anew a_t_table a_t_inputs a_t_number a_t_outAny a_t_out a_t_at a_t_in a_t_back a_t_register a_t_output a_t_calls a_t_latest a_t_differ out.2 t_own t_count t_tableSize t_given t_known t_news t_depth t_steps t_taken t_shown t_outcome t_length t_met t_any) out.1 := by
  unfold f_X8_kind at hf
  refine ge_i (by decide) (Nat.le_of_ble_eq_true rfl) (fun p e s m below meth c A H locs ls hC hW hl => ?_)
  have hC : g_C p s m meth c _ cX8_kind 5 (some .int) RX8 := hC
  have hx := hC.1
  have hb := hC.2.1
  have hown := hC.2.2.2.2.1
  have hts := hC.2.2.2.2.2.1
  have hl : lv_has ls 5 [(0, .ref a_t), (1, .int x1), (2, .int x2), (3, .int x3)] := hl
  refine lv_aload_n hx hb dX8_kind_0 rfl (lv_at hl 0 rfl) ?_
  refine lv_iload_n hx hb dX8_kind_1 rfl (lv_at hl 1 rfl) ?_
  refine lv_iload_n hx hb dX8_kind_2 rfl (lv_at hl 2 rfl) ?_
  refine lv_iload_n hx hb dX8_kind_3 rfl (lv_at hl 3 rfl) ?_
  obtain ⟨o1, h1, hf⟩ := g_bnd hf
  refine gs_callVi (ws' := w_X8_kind cI cZ cJ a_t a_t_length a_t_met a_t_any a_t_parameters a_t_newLength a_t_first a_t_now a_t_anew a_t_table a_t_inputs a_t_number a_t_outAny a_t_out a_t_at a_t_in a_t_back a_t_register a_t_output a_t_calls a_t_latest a_t_differ o1.2 t_own t_count t_tableSize t_given t_known t_news t_depth t_steps t_taken t_shown t_outcome t_length t_met t_any) hC hW (k_X8_find l tA dC dI cI cZ cJ a_t a_t_length a_t_parameters a_t_newLength a_t_first a_t_now a_t_anew a_t_table a_t_inputs a_t_met a_t_any a_t_number a_t_outAny a_t_out a_t_at a_t_in a_t_back a_t_register a_t_output a_t_calls a_t_latest a_t_differ x1 x2 x3 t_code t_own t_count t_tableSize t_given t_known t_news t_depth t_steps t_taken t_shown t_outcome t_length _ h1) yk_X8_find lk_X8_177 iv_X8_find ⟨rfl, rfl⟩ ⟨Nat.le_of_ble_eq_true rfl, Nat.le_of_ble_eq_true rfl⟩ hl.1 0 rfl rfl [0, 1] [2, 3] [2, 3, 0, 1] rfl rfl rfl rfl (by decide) rfl rfl rfl rfl (Nat.le_of_ble_eq_true rfl) dX8_kind_4 ⟨Nat.zero_le _, Nat.zero_le _⟩ (fun H locs hW => ?_)
  refine lv_istore (lv' := [(4, .int o1.1), (0, .ref a_t), (1, .int x1), (2, .int x2), (3, .int x3)]) hx hb dX8_kind_7 hl (by decide) rfl (fun ls hl => ?_)
  refine lv_aload_n hx hb dX8_kind_9 rfl (lv_at hl 1 rfl) ?_
  refine gs_get hC hW in_X8 0 0 rfl rfl (by decide) fl_X8_74 rfl dX8_kind_10 ?_
  refine lv_if_gt (tgt := 29) hx hb dX8_kind_13 (by decide) (fun c2 => ?_) (fun c2 => ?_)
  · replace hf := (if_pos c2).symm.trans hf
    refine lv_iconst (v := 0) hx hb dX8_kind_29 (by decide) ?_
    refine lv_goto (tgt := 48) hx hb dX8_kind_30 (by decide) ?_
    obtain rfl := Option.some.inj hf
    exact gs_ri hC hW rfl dX8_kind_48
  · replace hf := (if_neg c2).symm.trans hf
    refine lv_aload_n hx hb dX8_kind_16 rfl (lv_at hl 1 rfl) ?_
    refine gs_get hC hW in_X8 0 14 rfl rfl (by decide) fl_X8_34 rfl dX8_kind_17 ?_
    refine lv_iload hx hb dX8_kind_20 (lv_at hl 0 rfl) ?_
    refine lv_bipush (v := 6) hx hb dX8_kind_22 (by decide) ?_
    obtain ⟨v3, h3, hf⟩ := g_bnd hf
    refine gs_idiv hC h3 dX8_kind_24 ?_
    obtain ⟨v4, h4, hf⟩ := g_bnd hf
    refine gs_zald hC hW 2 h4 rfl dX8_kind_25 ?_
    refine lv_if_ne (tgt := 33) hx hb dX8_kind_26 (by decide) (fun c5 => ?_) (fun c5 => ?_)
    · replace hf := (if_neg c5).symm.trans hf
      refine lv_aload_n hx hb dX8_kind_33 rfl (lv_at hl 1 rfl) ?_
      refine gs_get hC hW in_X8 0 15 rfl rfl (by decide) fl_X8_38 rfl dX8_kind_34 ?_
      refine lv_iload hx hb dX8_kind_37 (lv_at hl 0 rfl) ?_
      obtain ⟨v6, h6, hf⟩ := g_bnd hf
      refine gs_zald hC hW 3 h6 rfl dX8_kind_39 ?_
      refine lv_if_eq (tgt := 47) hx hb dX8_kind_40 (by decide) (fun c7 => ?_) (fun c7 => ?_)
      · replace hf := (if_pos c7).symm.trans hf
        refine lv_iconst (v := 1) hx hb dX8_kind_47 (by decide) ?_
        obtain rfl := Option.some.inj hf
        exact gs_ri hC hW rfl dX8_kind_48
      · replace hf := (if_neg c7).symm.trans hf
        refine lv_iconst (v := 2) hx hb dX8_kind_43 (by decide) ?_
        refine lv_goto (tgt := 48) hx hb dX8_kind_44 (by decide) ?_
        obtain rfl := Option.some.inj hf
        exact gs_ri hC hW rfl dX8_kind_48
    · replace hf := (if_pos c5).symm.trans hf
      refine lv_iconst (v := 0) hx hb dX8_kind_29 (by decide) ?_
      refine lv_goto (tgt := 48) hx hb dX8_kind_30 (by decide) ?_
      obtain rfl := Option.some.inj hf
      exact gs_ri hC hW rfl dX8_kind_48

abbrev w_X8_number (cI cZ cJ : ClassId) (a_t : Nat) (a_t_length : Nat) (a_t_met : Nat) (a_t_number : Nat) (a_t_parameters : Nat) (a_t_newLength : Nat) (a_t_first : Nat) (a_t_now : Nat) (a_t_anew : Nat) (a_t_table : Nat) (a_t_inputs : Nat) (a_t_any : Nat) (a_t_outAny : Nat) (a_t_out : Nat) (a_t_at : Nat) (a_t_in : Nat) (a_t_back : Nat) (a_t_register : Nat) (a_t_output : Nat) (a_t_calls : Nat) (a_t_latest : Nat) (a_t_differ : Nat) (t_code : Int32) (t_own : Int32) (t_count : Int32) (t_tableSize : Int32) (t_given : Int32) (t_known : Int32) (t_news : Int32) (t_depth : Int32) (t_steps : Int32) (t_taken : Int32) (t_shown : Int32) (t_outcome : Int32) (t_length : Nat → Int32) (t_met : Nat → Int32) (t_number : Nat → Int32) : va_W := [(a_t, .inr (8, [.int t_code, .int t_own, .int t_count, .ref a_t_parameters, .ref a_t_length, .ref a_t_newLength, .ref a_t_first, .ref a_t_now, .ref a_t_anew, .int t_tableSize, .ref a_t_table, .int t_given, .ref a_t_inputs, .int t_known, .ref a_t_met, .ref a_t_any, .ref a_t_number, .int t_news, .ref a_t_outAny, .ref a_t_out, .int t_depth, .int t_steps, .int t_taken, .int t_shown, .ref a_t_at, .ref a_t_in, .ref a_t_back, .ref a_t_register, .ref a_t_output, .ref a_t_calls, .ref a_t_latest, .ref a_t_differ, .int t_outcome])), (a_t_length, .inl (cI, 12, .inl t_length)), (a_t_met, .inl (cZ, 204, .inl t_met)), (a_t_number, .inl (cI, 1224, .inl t_number))]
abbrev r_X8_number : Room := { frames := 1, cells := 0, slots := 0, locals := 23 }
def f_X8_number (x1 : Int32) (x2 : Int32) (x3 : Int32) (t_code : Int32) (t_count : Int32) (t_known : Int32) (t_length : Nat → Int32) (t_met : Nat → Int32) (t_number : Nat → Int32) : Option (Int32 × Int32) := (f_X8_find x1 x2 x3 t_code t_count t_known t_length).bind (fun o1 => if 0 < o1.2 then some (0, o1.2) else (g_dv o1.1 6).bind (fun v3 => (g_rd 204 t_met v3).bind (fun v4 => if v4 = 0 then some (0, o1.2) else (g_rd 1224 t_number o1.1).bind (fun v6 => some (v6, o1.2)))))
set_option maxHeartbeats 4000000 in
set_option maxRecDepth 100000 in
theorem k_X8_number (l : Launch) (tA : Nat) (dC : Nat → ClassId) (dI : Nat → Nat → Nat) (cI cZ cJ : ClassId) (a_t : Nat) (a_t_length : Nat) (a_t_met : Nat) (a_t_number : Nat) (a_t_parameters : Nat) (a_t_newLength : Nat) (a_t_first : Nat) (a_t_now : Nat) (a_t_anew : Nat) (a_t_table : Nat) (a_t_inputs : Nat) (a_t_any : Nat) (a_t_outAny : Nat) (a_t_out : Nat) (a_t_at : Nat) (a_t_in : Nat) (a_t_back : Nat) (a_t_register : Nat) (a_t_output : Nat) (a_t_calls : Nat) (a_t_latest : Nat) (a_t_differ : Nat) (x1 : Int32) (x2 : Int32) (x3 : Int32) (t_code : Int32) (t_own : Int32) (t_count : Int32) (t_tableSize : Int32) (t_given : Int32) (t_known : Int32) (t_news : Int32) (t_depth : Int32) (t_steps : Int32) (t_taken : Int32) (t_shown : Int32) (t_outcome : Int32) (t_length : Nat → Int32) (t_met : Nat → Int32) (t_number : Nat → Int32) (out : Int32 × Int32) (hf : f_X8_number x1 x2 x3 t_code t_count t_known t_length t_met t_number = some out) : g_Mi l yX8_number cX8_number 5 (some .int) r_X8_number tA dC dI cI cZ cJ [.ref a_t, .int x1, .int x2, .int x3] (w_X8_number cI cZ cJ a_t a_t_length a_t_met a_t_number a_t_parameters a_t_newLength a_t_first a_t_now a_t_anew a_t_table a_t_inputs a_t_any a_t_outAny a_t_out a_t_at a_t_in a_t_back a_t_register a_t_output a_t_calls a_t_latest a_t_differ t_code t_own t_count t_tableSize t_given t_known t_news t_depth t_steps t_taken t_shown t_outcome t_length t_met t_number) (w_X8_number cI cZ cJ a_t a_t_length a_t_met a_t_number a_t_parameters a_t_newLength a_t_first a_t_now a_t_anew a_t_table a_t_inputs a_t_any a_t_outAny a_t_out a_t_at a_t_in a_t_back a_t_register a_t_output a_t_calls a_t_latest a_t_differ out.2 t_own t_count t_tableSize t_given t_known t_news t_depth t_steps t_taken t_shown t_outcome t_length t_met t_number) out.1 := by
  unfold f_X8_number at hf
  refine ge_i (by decide) (Nat.le_of_ble_eq_true rfl) (fun p e s m below meth c A H locs ls hC hW hl => ?_)
  have hC : g_C p s m meth c _ cX8_number 5 (some .int) RX8 := hC
  have hx := hC.1
  have hb := hC.2.1
  have hown := hC.2.2.2.2.1
  have hts := hC.2.2.2.2.2.1
  have hl : lv_has ls 5 [(0, .ref a_t), (1, .int x1), (2, .int x2), (3, .int x3)] := hl
  refine lv_aload_n hx hb dX8_number_0 rfl (lv_at hl 0 rfl) ?_
  refine lv_iload_n hx hb dX8_number_1 rfl (lv_at hl 1 rfl) ?_
  refine lv_iload_n hx hb dX8_number_2 rfl (lv_at hl 2 rfl) ?_
  refine lv_iload_n hx hb dX8_number_3 rfl (lv_at hl 3 rfl) ?_
  obtain ⟨o1, h1, hf⟩ := g_bnd hf
  refine gs_callVi (ws' := w_X8_number cI cZ cJ a_t a_t_length a_t_met a_t_number a_t_parameters a_t_newLength a_t_first a_t_now a_t_anew a_t_table a_t_inputs a_t_any a_t_outAny a_t_out a_t_at a_t_in a_t_back a_t_register a_t_output a_t_calls a_t_latest a_t_differ o1.2 t_own t_count t_tableSize t_given t_known t_news t_depth t_steps t_taken t_shown t_outcome t_length t_met t_number) hC hW (k_X8_find l tA dC dI cI cZ cJ a_t a_t_length a_t_parameters a_t_newLength a_t_first a_t_now a_t_anew a_t_table a_t_inputs a_t_met a_t_any a_t_number a_t_outAny a_t_out a_t_at a_t_in a_t_back a_t_register a_t_output a_t_calls a_t_latest a_t_differ x1 x2 x3 t_code t_own t_count t_tableSize t_given t_known t_news t_depth t_steps t_taken t_shown t_outcome t_length _ h1) yk_X8_find lk_X8_177 iv_X8_find ⟨rfl, rfl⟩ ⟨Nat.le_of_ble_eq_true rfl, Nat.le_of_ble_eq_true rfl⟩ hl.1 0 rfl rfl [0, 1] [2, 3] [2, 3, 0, 1] rfl rfl rfl rfl (by decide) rfl rfl rfl rfl (Nat.le_of_ble_eq_true rfl) dX8_number_4 ⟨Nat.zero_le _, Nat.zero_le _⟩ (fun H locs hW => ?_)
  refine lv_istore (lv' := [(4, .int o1.1), (0, .ref a_t), (1, .int x1), (2, .int x2), (3, .int x3)]) hx hb dX8_number_7 hl (by decide) rfl (fun ls hl => ?_)
  refine lv_aload_n hx hb dX8_number_9 rfl (lv_at hl 1 rfl) ?_
  refine gs_get hC hW in_X8 0 0 rfl rfl (by decide) fl_X8_74 rfl dX8_number_10 ?_
  refine lv_if_gt (tgt := 29) hx hb dX8_number_13 (by decide) (fun c2 => ?_) (fun c2 => ?_)
  · replace hf := (if_pos c2).symm.trans hf
    refine lv_iconst (v := 0) hx hb dX8_number_29 (by decide) ?_
    refine lv_goto (tgt := 40) hx hb dX8_number_30 (by decide) ?_
    obtain rfl := Option.some.inj hf
    exact gs_ri hC hW rfl dX8_number_40
  · replace hf := (if_neg c2).symm.trans hf
    refine lv_aload_n hx hb dX8_number_16 rfl (lv_at hl 1 rfl) ?_
    refine gs_get hC hW in_X8 0 14 rfl rfl (by decide) fl_X8_34 rfl dX8_number_17 ?_
    refine lv_iload hx hb dX8_number_20 (lv_at hl 0 rfl) ?_
    refine lv_bipush (v := 6) hx hb dX8_number_22 (by decide) ?_
    obtain ⟨v3, h3, hf⟩ := g_bnd hf
    refine gs_idiv hC h3 dX8_number_24 ?_
    obtain ⟨v4, h4, hf⟩ := g_bnd hf
    refine gs_zald hC hW 2 h4 rfl dX8_number_25 ?_
    refine lv_if_ne (tgt := 33) hx hb dX8_number_26 (by decide) (fun c5 => ?_) (fun c5 => ?_)
    · replace hf := (if_neg c5).symm.trans hf
      refine lv_aload_n hx hb dX8_number_33 rfl (lv_at hl 1 rfl) ?_
      refine gs_get hC hW in_X8 0 16 rfl rfl (by decide) fl_X8_41 rfl dX8_number_34 ?_
      refine lv_iload hx hb dX8_number_37 (lv_at hl 0 rfl) ?_
      obtain ⟨v6, h6, hf⟩ := g_bnd hf
      refine gs_iald hC hW 3 h6 rfl dX8_number_39 ?_
      obtain rfl := Option.some.inj hf
      exact gs_ri hC hW rfl dX8_number_40
    · replace hf := (if_pos c5).symm.trans hf
      refine lv_iconst (v := 0) hx hb dX8_number_29 (by decide) ?_
      refine lv_goto (tgt := 40) hx hb dX8_number_30 (by decide) ?_
      obtain rfl := Option.some.inj hf
      exact gs_ri hC hW rfl dX8_number_40

abbrev w_X8_statement (cI cZ cJ : ClassId) (a_t : Nat) (a_t_newLength : Nat) (a_t_anew : Nat) (a_t_parameters : Nat) (a_t_length : Nat) (a_t_first : Nat) (a_t_now : Nat) (a_t_table : Nat) (a_t_inputs : Nat) (a_t_met : Nat) (a_t_any : Nat) (a_t_number : Nat) (a_t_outAny : Nat) (a_t_out : Nat) (a_t_at : Nat) (a_t_in : Nat) (a_t_back : Nat) (a_t_register : Nat) (a_t_output : Nat) (a_t_calls : Nat) (a_t_latest : Nat) (a_t_differ : Nat) (t_code : Int32) (t_own : Int32) (t_count : Int32) (t_tableSize : Int32) (t_given : Int32) (t_known : Int32) (t_news : Int32) (t_depth : Int32) (t_steps : Int32) (t_taken : Int32) (t_shown : Int32) (t_outcome : Int32) (t_newLength : Nat → Int32) (t_anew : Nat → Int32) : va_W := [(a_t, .inr (8, [.int t_code, .int t_own, .int t_count, .ref a_t_parameters, .ref a_t_length, .ref a_t_newLength, .ref a_t_first, .ref a_t_now, .ref a_t_anew, .int t_tableSize, .ref a_t_table, .int t_given, .ref a_t_inputs, .int t_known, .ref a_t_met, .ref a_t_any, .ref a_t_number, .int t_news, .ref a_t_outAny, .ref a_t_out, .int t_depth, .int t_steps, .int t_taken, .int t_shown, .ref a_t_at, .ref a_t_in, .ref a_t_back, .ref a_t_register, .ref a_t_output, .ref a_t_calls, .ref a_t_latest, .ref a_t_differ, .int t_outcome])), (a_t_newLength, .inl (cI, 12, .inl t_newLength)), (a_t_anew, .inl (cI, 1152, .inl t_anew))]
abbrev r_X8_statement : Room := { frames := 0, cells := 0, slots := 0, locals := 0 }
def f_X8_statement_56 (x1 : Int32) (x2 : Int32) (x3 : Int32) (t_count : Int32) (t_known : Int32) (t_newLength : Nat → Int32) (t_anew : Nat → Int32) (z0 : Int32) (t_code : Int32) : Option (Int32 × Int32) := if z0 ≤ 0 then (g_rd 1152 t_anew (((96 * x1) + (6 * x2)) + x3)).bind (fun v2 => some (v2, z0)) else some (0, z0)
set_option maxHeartbeats 4000000 in
set_option maxRecDepth 100000 in
theorem b_X8_statement_56 {p : Program} {l : Launch} {e : Env} {s : State} {m : MethodId} {args : Array Value} {below : List Frame} {meth : Method} {c : Code} {tA : Nat} {dC : Nat → ClassId} {dI : Nat → Nat → Nat} {cI cZ cJ : ClassId} {A : Nat → Prop} {a_t : Nat} {a_t_newLength : Nat} {a_t_anew : Nat} {a_t_parameters : Nat} {a_t_length : Nat} {a_t_first : Nat} {a_t_now : Nat} {a_t_table : Nat} {a_t_inputs : Nat} {a_t_met : Nat} {a_t_any : Nat} {a_t_number : Nat} {a_t_outAny : Nat} {a_t_out : Nat} {a_t_at : Nat} {a_t_in : Nat} {a_t_back : Nat} {a_t_register : Nat} {a_t_output : Nat} {a_t_calls : Nat} {a_t_latest : Nat} {a_t_differ : Nat} {x1 : Int32} {x2 : Int32} {x3 : Int32} {t_count : Int32} {t_known : Int32} {t_newLength : Nat → Int32} {t_anew : Nat → Int32} {t_own : Int32} {t_tableSize : Int32} {t_given : Int32} {t_news : Int32} {t_depth : Int32} {t_steps : Int32} {t_taken : Int32} {t_shown : Int32} {t_outcome : Int32} {z0 : Int32} {t_code : Int32} {out : Int32 × Int32} (hC : g_C p s m meth c args cX8_statement 4 (some .int) RX8) (hf : f_X8_statement_56 x1 x2 x3 t_count t_known t_newLength t_anew z0 t_code = some out) {H : Heap} {locs : List Loc} {ls : Array Slot} (hW : g_W tA dC dI cI cZ cJ A s H locs (w_X8_statement cI cZ cJ a_t a_t_newLength a_t_anew a_t_parameters a_t_length a_t_first a_t_now a_t_table a_t_inputs a_t_met a_t_any a_t_number a_t_outAny a_t_out a_t_at a_t_in a_t_back a_t_register a_t_output a_t_calls a_t_latest a_t_differ t_code t_own t_count t_tableSize t_given t_known t_news t_depth t_steps t_taken t_shown t_outcome t_newLength t_anew)) (hl : lv_has ls 4 [(0, .ref a_t), (1, .int x1), (2, .int x2), (3, .int x3)]) : W p l e r_X8_statement s m args below meth c H locs 0 0 (MQ below (g_Qi dC dI cI cZ cJ A (w_X8_statement cI cZ cJ a_t a_t_newLength a_t_anew a_t_parameters a_t_length a_t_first a_t_now a_t_table a_t_inputs a_t_met a_t_any a_t_number a_t_outAny a_t_out a_t_at a_t_in a_t_back a_t_register a_t_output a_t_calls a_t_latest a_t_differ out.2 t_own t_count t_tableSize t_given t_known t_news t_depth t_steps t_taken t_shown t_outcome t_newLength t_anew) out.1) args s 0 0 A) (F0 m 56 ls [.int z0, .ref a_t]) := by
  have hx := hC.1
  have hb := hC.2.1
  have hown := hC.2.2.2.2.1
  have hts := hC.2.2.2.2.2.1
  unfold f_X8_statement_56 at hf
  refine gs_put (ws' := w_X8_statement cI cZ cJ a_t a_t_newLength a_t_anew a_t_parameters a_t_length a_t_first a_t_now a_t_table a_t_inputs a_t_met a_t_any a_t_number a_t_outAny a_t_out a_t_at a_t_in a_t_back a_t_register a_t_output a_t_calls a_t_latest a_t_differ z0 t_own t_count t_tableSize t_given t_known t_news t_depth t_steps t_taken t_shown t_outcome t_newLength t_anew) hC hW in_X8 tyX8_ok nmX8 0 0 rfl rfl (by decide) fl_X8_74 rfl rfl rfl (Nat.le_of_ble_eq_true rfl) rfl dX8_statement_56 (fun H locs hW => ?_)
  refine lv_aload_n hx hb dX8_statement_59 rfl (lv_at hl 0 rfl) ?_
  refine gs_get hC hW in_X8 0 0 rfl rfl (by decide) fl_X8_74 rfl dX8_statement_60 ?_
  refine lv_if_le (tgt := 70) hx hb dX8_statement_63 (by decide) (fun c1 => ?_) (fun c1 => ?_)
  · replace hf := (if_pos c1).symm.trans hf
    refine lv_aload_n hx hb dX8_statement_70 rfl (lv_at hl 0 rfl) ?_
    refine gs_get hC hW in_X8 0 8 rfl rfl (by decide) fl_X8_25 rfl dX8_statement_71 ?_
    refine lv_bipush (v := 96) hx hb dX8_statement_74 (by decide) ?_
    refine lv_iload_n hx hb dX8_statement_76 rfl (lv_at hl 1 rfl) ?_
    refine lv_imul hx hb dX8_statement_77 ?_
    refine lv_bipush (v := 6) hx hb dX8_statement_78 (by decide) ?_
    refine lv_iload_n hx hb dX8_statement_80 rfl (lv_at hl 2 rfl) ?_
    refine lv_imul hx hb dX8_statement_81 ?_
    refine lv_iadd hx hb dX8_statement_82 ?_
    refine lv_iload_n hx hb dX8_statement_83 rfl (lv_at hl 3 rfl) ?_
    refine lv_iadd hx hb dX8_statement_84 ?_
    obtain ⟨v2, h2, hf⟩ := g_bnd hf
    refine gs_iald hC hW 2 h2 rfl dX8_statement_85 ?_
    obtain rfl := Option.some.inj hf
    exact gs_ri hC hW rfl dX8_statement_86
  · replace hf := (if_neg c1).symm.trans hf
    refine lv_iconst (v := 0) hx hb dX8_statement_66 (by decide) ?_
    refine lv_goto (tgt := 86) hx hb dX8_statement_67 (by decide) ?_
    obtain rfl := Option.some.inj hf
    exact gs_ri hC hW rfl dX8_statement_86
def f_X8_statement (x1 : Int32) (x2 : Int32) (x3 : Int32) (t_code : Int32) (t_count : Int32) (t_known : Int32) (t_newLength : Nat → Int32) (t_anew : Nat → Int32) : Option (Int32 × Int32) := if t_known = 0 then f_X8_statement_56 x1 x2 x3 t_count t_known t_newLength t_anew 1 t_code else if x1 < 0 then f_X8_statement_56 x1 x2 x3 t_count t_known t_newLength t_anew 2 t_code else if t_count ≤ x1 then f_X8_statement_56 x1 x2 x3 t_count t_known t_newLength t_anew 2 t_code else if x2 < 0 then f_X8_statement_56 x1 x2 x3 t_count t_known t_newLength t_anew 2 t_code else (g_rd 12 t_newLength x1).bind (fun v7 => if x2 < v7 then if x3 < 0 then f_X8_statement_56 x1 x2 x3 t_count t_known t_newLength t_anew 3 t_code else if x3 ≤ 5 then f_X8_statement_56 x1 x2 x3 t_count t_known t_newLength t_anew 0 t_code else f_X8_statement_56 x1 x2 x3 t_count t_known t_newLength t_anew 3 t_code else f_X8_statement_56 x1 x2 x3 t_count t_known t_newLength t_anew 2 t_code)
set_option maxHeartbeats 4000000 in
set_option maxRecDepth 100000 in
theorem k_X8_statement (l : Launch) (tA : Nat) (dC : Nat → ClassId) (dI : Nat → Nat → Nat) (cI cZ cJ : ClassId) (a_t : Nat) (a_t_newLength : Nat) (a_t_anew : Nat) (a_t_parameters : Nat) (a_t_length : Nat) (a_t_first : Nat) (a_t_now : Nat) (a_t_table : Nat) (a_t_inputs : Nat) (a_t_met : Nat) (a_t_any : Nat) (a_t_number : Nat) (a_t_outAny : Nat) (a_t_out : Nat) (a_t_at : Nat) (a_t_in : Nat) (a_t_back : Nat) (a_t_register : Nat) (a_t_output : Nat) (a_t_calls : Nat) (a_t_latest : Nat) (a_t_differ : Nat) (x1 : Int32) (x2 : Int32) (x3 : Int32) (t_code : Int32) (t_own : Int32) (t_count : Int32) (t_tableSize : Int32) (t_given : Int32) (t_known : Int32) (t_news : Int32) (t_depth : Int32) (t_steps : Int32) (t_taken : Int32) (t_shown : Int32) (t_outcome : Int32) (t_newLength : Nat → Int32) (t_anew : Nat → Int32) (out : Int32 × Int32) (hf : f_X8_statement x1 x2 x3 t_code t_count t_known t_newLength t_anew = some out) : g_Mi l yX8_statement cX8_statement 4 (some .int) r_X8_statement tA dC dI cI cZ cJ [.ref a_t, .int x1, .int x2, .int x3] (w_X8_statement cI cZ cJ a_t a_t_newLength a_t_anew a_t_parameters a_t_length a_t_first a_t_now a_t_table a_t_inputs a_t_met a_t_any a_t_number a_t_outAny a_t_out a_t_at a_t_in a_t_back a_t_register a_t_output a_t_calls a_t_latest a_t_differ t_code t_own t_count t_tableSize t_given t_known t_news t_depth t_steps t_taken t_shown t_outcome t_newLength t_anew) (w_X8_statement cI cZ cJ a_t a_t_newLength a_t_anew a_t_parameters a_t_length a_t_first a_t_now a_t_table a_t_inputs a_t_met a_t_any a_t_number a_t_outAny a_t_out a_t_at a_t_in a_t_back a_t_register a_t_output a_t_calls a_t_latest a_t_differ out.2 t_own t_count t_tableSize t_given t_known t_news t_depth t_steps t_taken t_shown t_outcome t_newLength t_anew) out.1 := by
  unfold f_X8_statement at hf
  refine ge_i (by decide) (Nat.le_of_ble_eq_true rfl) (fun p e s m below meth c A H locs ls hC hW hl => ?_)
  have hC : g_C p s m meth c _ cX8_statement 4 (some .int) RX8 := hC
  have hx := hC.1
  have hb := hC.2.1
  have hown := hC.2.2.2.2.1
  have hts := hC.2.2.2.2.2.1
  have hl : lv_has ls 4 [(0, .ref a_t), (1, .int x1), (2, .int x2), (3, .int x3)] := hl
  refine lv_aload_n hx hb dX8_statement_0 rfl (lv_at hl 0 rfl) ?_
  refine lv_aload_n hx hb dX8_statement_1 rfl (lv_at hl 0 rfl) ?_
  refine gs_get hC hW in_X8 0 13 rfl rfl (by decide) fl_X8_78 rfl dX8_statement_2 ?_
  refine lv_if_ne (tgt := 12) hx hb dX8_statement_5 (by decide) (fun c3 => ?_) (fun c3 => ?_)
  · replace hf := (if_neg c3).symm.trans hf
    refine lv_iload_n hx hb dX8_statement_12 rfl (lv_at hl 1 rfl) ?_
    refine lv_if_lt (tgt := 38) hx hb dX8_statement_13 (by decide) (fun c4 => ?_) (fun c4 => ?_)
    · replace hf := (if_pos c4).symm.trans hf
      refine lv_iconst (v := 2) hx hb dX8_statement_38 (by decide) ?_
      refine lv_goto (tgt := 56) hx hb dX8_statement_39 (by decide) ?_
      exact b_X8_statement_56 hC hf hW (lv_sub hl [0, 1, 2, 3] rfl)
    · replace hf := (if_neg c4).symm.trans hf
      refine lv_iload_n hx hb dX8_statement_16 rfl (lv_at hl 1 rfl) ?_
      refine lv_aload_n hx hb dX8_statement_17 rfl (lv_at hl 0 rfl) ?_
      refine gs_get hC hW in_X8 0 2 rfl rfl (by decide) fl_X8_85 rfl dX8_statement_18 ?_
      refine lv_icmp_ge (tgt := 38) hx hb dX8_statement_21 (by decide) (fun c5 => ?_) (fun c5 => ?_)
      · replace hf := (if_pos c5).symm.trans hf
        refine lv_iconst (v := 2) hx hb dX8_statement_38 (by decide) ?_
        refine lv_goto (tgt := 56) hx hb dX8_statement_39 (by decide) ?_
        exact b_X8_statement_56 hC hf hW (lv_sub hl [0, 1, 2, 3] rfl)
      · replace hf := (if_neg c5).symm.trans hf
        refine lv_iload_n hx hb dX8_statement_24 rfl (lv_at hl 2 rfl) ?_
        refine lv_if_lt (tgt := 38) hx hb dX8_statement_25 (by decide) (fun c6 => ?_) (fun c6 => ?_)
        · replace hf := (if_pos c6).symm.trans hf
          refine lv_iconst (v := 2) hx hb dX8_statement_38 (by decide) ?_
          refine lv_goto (tgt := 56) hx hb dX8_statement_39 (by decide) ?_
          exact b_X8_statement_56 hC hf hW (lv_sub hl [0, 1, 2, 3] rfl)
        · replace hf := (if_neg c6).symm.trans hf
          refine lv_iload_n hx hb dX8_statement_28 rfl (lv_at hl 2 rfl) ?_
          refine lv_aload_n hx hb dX8_statement_29 rfl (lv_at hl 0 rfl) ?_
          refine gs_get hC hW in_X8 0 5 rfl rfl (by decide) fl_X8_16 rfl dX8_statement_30 ?_
          refine lv_iload_n hx hb dX8_statement_33 rfl (lv_at hl 1 rfl) ?_
          obtain ⟨v7, h7, hf⟩ := g_bnd hf
          refine gs_iald hC hW 1 h7 rfl dX8_statement_34 ?_
          refine lv_icmp_lt (tgt := 42) hx hb dX8_statement_35 (by decide) (fun c8 => ?_) (fun c8 => ?_)
          · replace hf := (if_pos c8).symm.trans hf
            refine lv_iload_n hx hb dX8_statement_42 rfl (lv_at hl 3 rfl) ?_
            refine lv_if_lt (tgt := 51) hx hb dX8_statement_43 (by decide) (fun c9 => ?_) (fun c9 => ?_)
            · replace hf := (if_pos c9).symm.trans hf
              refine lv_iconst (v := 3) hx hb dX8_statement_51 (by decide) ?_
              refine lv_goto (tgt := 56) hx hb dX8_statement_52 (by decide) ?_
              exact b_X8_statement_56 hC hf hW (lv_sub hl [0, 1, 2, 3] rfl)
            · replace hf := (if_neg c9).symm.trans hf
              refine lv_iload_n hx hb dX8_statement_46 rfl (lv_at hl 3 rfl) ?_
              refine lv_iconst (v := 5) hx hb dX8_statement_47 (by decide) ?_
              refine lv_icmp_le (tgt := 55) hx hb dX8_statement_48 (by decide) (fun c10 => ?_) (fun c10 => ?_)
              · replace hf := (if_pos c10).symm.trans hf
                refine lv_iconst (v := 0) hx hb dX8_statement_55 (by decide) ?_
                exact b_X8_statement_56 hC hf hW (lv_sub hl [0, 1, 2, 3] rfl)
              · replace hf := (if_neg c10).symm.trans hf
                refine lv_iconst (v := 3) hx hb dX8_statement_51 (by decide) ?_
                refine lv_goto (tgt := 56) hx hb dX8_statement_52 (by decide) ?_
                exact b_X8_statement_56 hC hf hW (lv_sub hl [0, 1, 2, 3] rfl)
          · replace hf := (if_neg c8).symm.trans hf
            refine lv_iconst (v := 2) hx hb dX8_statement_38 (by decide) ?_
            refine lv_goto (tgt := 56) hx hb dX8_statement_39 (by decide) ?_
            exact b_X8_statement_56 hC hf hW (lv_sub hl [0, 1, 2, 3] rfl)
  · replace hf := (if_pos c3).symm.trans hf
    refine lv_iconst (v := 1) hx hb dX8_statement_8 (by decide) ?_
    refine lv_goto (tgt := 56) hx hb dX8_statement_9 (by decide) ?_
    exact b_X8_statement_56 hC hf hW (lv_sub hl [0, 1, 2, 3] rfl)

abbrev w_X8_valueOf (cI cZ cJ : ClassId) (a_t : Nat) (a_t_register : Nat) (a_t_parameters : Nat) (a_t_length : Nat) (a_t_newLength : Nat) (a_t_first : Nat) (a_t_now : Nat) (a_t_anew : Nat) (a_t_table : Nat) (a_t_inputs : Nat) (a_t_met : Nat) (a_t_any : Nat) (a_t_number : Nat) (a_t_outAny : Nat) (a_t_out : Nat) (a_t_at : Nat) (a_t_in : Nat) (a_t_back : Nat) (a_t_output : Nat) (a_t_calls : Nat) (a_t_latest : Nat) (a_t_differ : Nat) (t_code : Int32) (t_own : Int32) (t_count : Int32) (t_tableSize : Int32) (t_given : Int32) (t_known : Int32) (t_news : Int32) (t_depth : Int32) (t_steps : Int32) (t_taken : Int32) (t_shown : Int32) (t_outcome : Int32) (t_register : Nat → Int32) : va_W := [(a_t, .inr (8, [.int t_code, .int t_own, .int t_count, .ref a_t_parameters, .ref a_t_length, .ref a_t_newLength, .ref a_t_first, .ref a_t_now, .ref a_t_anew, .int t_tableSize, .ref a_t_table, .int t_given, .ref a_t_inputs, .int t_known, .ref a_t_met, .ref a_t_any, .ref a_t_number, .int t_news, .ref a_t_outAny, .ref a_t_out, .int t_depth, .int t_steps, .int t_taken, .int t_shown, .ref a_t_at, .ref a_t_in, .ref a_t_back, .ref a_t_register, .ref a_t_output, .ref a_t_calls, .ref a_t_latest, .ref a_t_differ, .int t_outcome])), (a_t_register, .inl (cI, 66, .inl t_register))]
abbrev r_X8_valueOf : Room := { frames := 1, cells := 0, slots := 0, locals := 20 }
def f_X8_valueOf (x1 : Int32) (t_depth : Int32) (t_register : Nat → Int32) : Option (Int32) := (f_X8_isNumber x1).bind (fun o1 => if o1 = 0 then (g_rd 66 t_register ((6 * (t_depth - 1)) + (x1 &&& 7))).bind (fun v3 => some v3) else some (x1 >>> (3 &&& 31)))
set_option maxHeartbeats 4000000 in
set_option maxRecDepth 100000 in
theorem k_X8_valueOf (l : Launch) (tA : Nat) (dC : Nat → ClassId) (dI : Nat → Nat → Nat) (cI cZ cJ : ClassId) (a_t : Nat) (a_t_register : Nat) (a_t_parameters : Nat) (a_t_length : Nat) (a_t_newLength : Nat) (a_t_first : Nat) (a_t_now : Nat) (a_t_anew : Nat) (a_t_table : Nat) (a_t_inputs : Nat) (a_t_met : Nat) (a_t_any : Nat) (a_t_number : Nat) (a_t_outAny : Nat) (a_t_out : Nat) (a_t_at : Nat) (a_t_in : Nat) (a_t_back : Nat) (a_t_output : Nat) (a_t_calls : Nat) (a_t_latest : Nat) (a_t_differ : Nat) (x1 : Int32) (t_code : Int32) (t_own : Int32) (t_count : Int32) (t_tableSize : Int32) (t_given : Int32) (t_known : Int32) (t_news : Int32) (t_depth : Int32) (t_steps : Int32) (t_taken : Int32) (t_shown : Int32) (t_outcome : Int32) (t_register : Nat → Int32) (out : Int32) (hf : f_X8_valueOf x1 t_depth t_register = some out) : g_Mi l yX8_valueOf cX8_valueOf 2 (some .int) r_X8_valueOf tA dC dI cI cZ cJ [.ref a_t, .int x1] (w_X8_valueOf cI cZ cJ a_t a_t_register a_t_parameters a_t_length a_t_newLength a_t_first a_t_now a_t_anew a_t_table a_t_inputs a_t_met a_t_any a_t_number a_t_outAny a_t_out a_t_at a_t_in a_t_back a_t_output a_t_calls a_t_latest a_t_differ t_code t_own t_count t_tableSize t_given t_known t_news t_depth t_steps t_taken t_shown t_outcome t_register) (w_X8_valueOf cI cZ cJ a_t a_t_register a_t_parameters a_t_length a_t_newLength a_t_first a_t_now a_t_anew a_t_table a_t_inputs a_t_met a_t_any a_t_number a_t_outAny a_t_out a_t_at a_t_in a_t_back a_t_output a_t_calls a_t_latest a_t_differ t_code t_own t_count t_tableSize t_given t_known t_news t_depth t_steps t_taken t_shown t_outcome t_register) out := by
  unfold f_X8_valueOf at hf
  refine ge_i (by decide) (Nat.le_of_ble_eq_true rfl) (fun p e s m below meth c A H locs ls hC hW hl => ?_)
  have hC : g_C p s m meth c _ cX8_valueOf 2 (some .int) RX8 := hC
  have hx := hC.1
  have hb := hC.2.1
  have hown := hC.2.2.2.2.1
  have hts := hC.2.2.2.2.2.1
  have hl : lv_has ls 2 [(0, .ref a_t), (1, .int x1)] := hl
  refine lv_iload_n hx hb dX8_valueOf_0 rfl (lv_at hl 1 rfl) ?_
  obtain ⟨o1, h1, hf⟩ := g_bnd hf
  refine gs_callSi (ws' := w_X8_valueOf cI cZ cJ a_t a_t_register a_t_parameters a_t_length a_t_newLength a_t_first a_t_now a_t_anew a_t_table a_t_inputs a_t_met a_t_any a_t_number a_t_outAny a_t_out a_t_at a_t_in a_t_back a_t_output a_t_calls a_t_latest a_t_differ t_code t_own t_count t_tableSize t_given t_known t_news t_depth t_steps t_taken t_shown t_outcome t_register) hC hW (k_X8_isNumber l tA dC dI cI cZ cJ x1 _ h1) yk_X8_isNumber lk_X8_112 is_X8_isNumber ⟨rfl, rfl⟩ ⟨Nat.le_of_ble_eq_true rfl, Nat.le_of_ble_eq_true rfl⟩ hl.1 [] [0, 1] [0, 1] rfl rfl rfl rfl (by decide) rfl rfl rfl rfl (Nat.le_of_ble_eq_true rfl) dX8_valueOf_1 ⟨Nat.zero_le _, Nat.zero_le _⟩ (fun H locs hW => ?_)
  refine lv_if_eq (tgt := 13) hx hb dX8_valueOf_4 (by decide) (fun c2 => ?_) (fun c2 => ?_)
  · replace hf := (if_pos c2).symm.trans hf
    refine lv_aload_n hx hb dX8_valueOf_13 rfl (lv_at hl 0 rfl) ?_
    refine gs_get hC hW in_X8 0 27 rfl rfl (by decide) fl_X8_59 rfl dX8_valueOf_14 ?_
    refine lv_bipush (v := 6) hx hb dX8_valueOf_17 (by decide) ?_
    refine lv_aload_n hx hb dX8_valueOf_19 rfl (lv_at hl 0 rfl) ?_
    refine gs_get hC hW in_X8 0 20 rfl rfl (by decide) fl_X8_180 rfl dX8_valueOf_20 ?_
    refine lv_iconst (v := 1) hx hb dX8_valueOf_23 (by decide) ?_
    refine lv_isub hx hb dX8_valueOf_24 ?_
    refine lv_imul hx hb dX8_valueOf_25 ?_
    refine lv_iload_n hx hb dX8_valueOf_26 rfl (lv_at hl 1 rfl) ?_
    refine lv_bipush (v := 7) hx hb dX8_valueOf_27 (by decide) ?_
    refine lv_iand hx hb dX8_valueOf_29 ?_
    refine lv_iadd hx hb dX8_valueOf_30 ?_
    obtain ⟨v3, h3, hf⟩ := g_bnd hf
    refine gs_iald hC hW 1 h3 rfl dX8_valueOf_31 ?_
    obtain rfl := Option.some.inj hf
    exact gs_ri hC hW rfl dX8_valueOf_32
  · replace hf := (if_neg c2).symm.trans hf
    refine lv_iload_n hx hb dX8_valueOf_7 rfl (lv_at hl 1 rfl) ?_
    refine lv_iconst (v := 3) hx hb dX8_valueOf_8 (by decide) ?_
    refine lv_ishr hx hb dX8_valueOf_9 ?_
    refine lv_goto (tgt := 32) hx hb dX8_valueOf_10 (by decide) ?_
    obtain rfl := Option.some.inj hf
    exact gs_ri hC hW rfl dX8_valueOf_32

abbrev w_X8_note (cI cZ cJ : ClassId) (a_t : Nat) (a_t_calls : Nat) (a_t_latest : Nat) (a_t_differ : Nat) (a_t_parameters : Nat) (a_t_length : Nat) (a_t_newLength : Nat) (a_t_first : Nat) (a_t_now : Nat) (a_t_anew : Nat) (a_t_table : Nat) (a_t_inputs : Nat) (a_t_met : Nat) (a_t_any : Nat) (a_t_number : Nat) (a_t_outAny : Nat) (a_t_out : Nat) (a_t_at : Nat) (a_t_in : Nat) (a_t_back : Nat) (a_t_register : Nat) (a_t_output : Nat) (t_code : Int32) (t_own : Int32) (t_count : Int32) (t_tableSize : Int32) (t_given : Int32) (t_known : Int32) (t_news : Int32) (t_depth : Int32) (t_steps : Int32) (t_taken : Int32) (t_shown : Int32) (t_outcome : Int32) (t_calls : Nat → Int32) (t_latest : Nat → Int32) (t_differ : Nat → Int32) : va_W := [(a_t, .inr (8, [.int t_code, .int t_own, .int t_count, .ref a_t_parameters, .ref a_t_length, .ref a_t_newLength, .ref a_t_first, .ref a_t_now, .ref a_t_anew, .int t_tableSize, .ref a_t_table, .int t_given, .ref a_t_inputs, .int t_known, .ref a_t_met, .ref a_t_any, .ref a_t_number, .int t_news, .ref a_t_outAny, .ref a_t_out, .int t_depth, .int t_steps, .int t_taken, .int t_shown, .ref a_t_at, .ref a_t_in, .ref a_t_back, .ref a_t_register, .ref a_t_output, .ref a_t_calls, .ref a_t_latest, .ref a_t_differ, .int t_outcome])), (a_t_calls, .inl (cI, 12, .inl t_calls)), (a_t_latest, .inl (cI, 36, .inl t_latest)), (a_t_differ, .inl (cZ, 36, .inl t_differ))]
abbrev r_X8_note : Room := { frames := 0, cells := 0, slots := 0, locals := 0 }
def f_X8_note (x1 : Int32) (x2 : Int32) (x3 : Int32) (t_calls : Nat → Int32) (t_latest : Nat → Int32) (t_differ : Nat → Int32) : Option ((Nat → Int32) × (Nat → Int32)) := (g_rd 36 t_differ ((3 * x1) + x2)).bind (fun v1 => if v1 = 0 then (g_rd 12 t_calls x1).bind (fun v5 => if v5 ≤ 0 then (g_wz 36 t_differ ((3 * x1) + x2) 0).bind (fun s7 => (g_wr 36 t_latest ((3 * x1) + x2) x3).bind (fun s8 => some (s8, s7))) else (g_rd 36 t_latest ((3 * x1) + x2)).bind (fun v9 => if v9 = x3 then (g_wz 36 t_differ ((3 * x1) + x2) 0).bind (fun s11 => (g_wr 36 t_latest ((3 * x1) + x2) x3).bind (fun s12 => some (s12, s11))) else (g_wz 36 t_differ ((3 * x1) + x2) 1).bind (fun s13 => (g_wr 36 t_latest ((3 * x1) + x2) x3).bind (fun s14 => some (s14, s13))))) else (g_wz 36 t_differ ((3 * x1) + x2) 1).bind (fun s3 => (g_wr 36 t_latest ((3 * x1) + x2) x3).bind (fun s4 => some (s4, s3))))
set_option maxHeartbeats 4000000 in
set_option maxRecDepth 100000 in
theorem k_X8_note (l : Launch) (tA : Nat) (dC : Nat → ClassId) (dI : Nat → Nat → Nat) (cI cZ cJ : ClassId) (a_t : Nat) (a_t_calls : Nat) (a_t_latest : Nat) (a_t_differ : Nat) (a_t_parameters : Nat) (a_t_length : Nat) (a_t_newLength : Nat) (a_t_first : Nat) (a_t_now : Nat) (a_t_anew : Nat) (a_t_table : Nat) (a_t_inputs : Nat) (a_t_met : Nat) (a_t_any : Nat) (a_t_number : Nat) (a_t_outAny : Nat) (a_t_out : Nat) (a_t_at : Nat) (a_t_in : Nat) (a_t_back : Nat) (a_t_register : Nat) (a_t_output : Nat) (x1 : Int32) (x2 : Int32) (x3 : Int32) (t_code : Int32) (t_own : Int32) (t_count : Int32) (t_tableSize : Int32) (t_given : Int32) (t_known : Int32) (t_news : Int32) (t_depth : Int32) (t_steps : Int32) (t_taken : Int32) (t_shown : Int32) (t_outcome : Int32) (t_calls : Nat → Int32) (t_latest : Nat → Int32) (t_differ : Nat → Int32) (out : (Nat → Int32) × (Nat → Int32)) (hf : f_X8_note x1 x2 x3 t_calls t_latest t_differ = some out) : g_Mv l yX8_note cX8_note 4 (none : Option Jvm.ClassFile.FieldType) r_X8_note tA dC dI cI cZ cJ [.ref a_t, .int x1, .int x2, .int x3] (w_X8_note cI cZ cJ a_t a_t_calls a_t_latest a_t_differ a_t_parameters a_t_length a_t_newLength a_t_first a_t_now a_t_anew a_t_table a_t_inputs a_t_met a_t_any a_t_number a_t_outAny a_t_out a_t_at a_t_in a_t_back a_t_register a_t_output t_code t_own t_count t_tableSize t_given t_known t_news t_depth t_steps t_taken t_shown t_outcome t_calls t_latest t_differ) (w_X8_note cI cZ cJ a_t a_t_calls a_t_latest a_t_differ a_t_parameters a_t_length a_t_newLength a_t_first a_t_now a_t_anew a_t_table a_t_inputs a_t_met a_t_any a_t_number a_t_outAny a_t_out a_t_at a_t_in a_t_back a_t_register a_t_output t_code t_own t_count t_tableSize t_given t_known t_news t_depth t_steps t_taken t_shown t_outcome t_calls out.1 out.2) := by
  unfold f_X8_note at hf
  refine ge_v (by decide) (Nat.le_of_ble_eq_true rfl) (fun p e s m below meth c A H locs ls hC hW hl => ?_)
  have hC : g_C p s m meth c _ cX8_note 4 (none : Option Jvm.ClassFile.FieldType) RX8 := hC
  have hx := hC.1
  have hb := hC.2.1
  have hown := hC.2.2.2.2.1
  have hts := hC.2.2.2.2.2.1
  have hl : lv_has ls 4 [(0, .ref a_t), (1, .int x1), (2, .int x2), (3, .int x3)] := hl
  refine lv_aload_n hx hb dX8_note_0 rfl (lv_at hl 0 rfl) ?_
  refine gs_get hC hW in_X8 0 31 rfl rfl (by decide) fl_X8_71 rfl dX8_note_1 ?_
  refine lv_iconst (v := 3) hx hb dX8_note_4 (by decide) ?_
  refine lv_iload_n hx hb dX8_note_5 rfl (lv_at hl 1 rfl) ?_
  refine lv_imul hx hb dX8_note_6 ?_
  refine lv_iload_n hx hb dX8_note_7 rfl (lv_at hl 2 rfl) ?_
  refine lv_iadd hx hb dX8_note_8 ?_
  refine lv_aload_n hx hb dX8_note_9 rfl (lv_at hl 0 rfl) ?_
  refine gs_get hC hW in_X8 0 31 rfl rfl (by decide) fl_X8_71 rfl dX8_note_10 ?_
  refine lv_iconst (v := 3) hx hb dX8_note_13 (by decide) ?_
  refine lv_iload_n hx hb dX8_note_14 rfl (lv_at hl 1 rfl) ?_
  refine lv_imul hx hb dX8_note_15 ?_
  refine lv_iload_n hx hb dX8_note_16 rfl (lv_at hl 2 rfl) ?_
  refine lv_iadd hx hb dX8_note_17 ?_
  obtain ⟨v1, h1, hf⟩ := g_bnd hf
  refine gs_zald hC hW 3 h1 rfl dX8_note_18 ?_
  refine lv_if_ne (tgt := 45) hx hb dX8_note_19 (by decide) (fun c2 => ?_) (fun c2 => ?_)
  · replace hf := (if_neg c2).symm.trans hf
    refine lv_iconst (v := 1) hx hb dX8_note_45 (by decide) ?_
    refine lv_goto (tgt := 50) hx hb dX8_note_46 (by decide) ?_
    obtain ⟨s3, h3, hf⟩ := g_bnd hf
    refine gs_zast (ws' := w_X8_note cI cZ cJ a_t a_t_calls a_t_latest a_t_differ a_t_parameters a_t_length a_t_newLength a_t_first a_t_now a_t_anew a_t_table a_t_inputs a_t_met a_t_any a_t_number a_t_outAny a_t_out a_t_at a_t_in a_t_back a_t_register a_t_output t_code t_own t_count t_tableSize t_given t_known t_news t_depth t_steps t_taken t_shown t_outcome t_calls t_latest s3) hC hW 3 h3 rfl rfl dX8_note_50 (fun H locs hW => ?_)
    refine lv_aload_n hx hb dX8_note_51 rfl (lv_at hl 0 rfl) ?_
    refine gs_get hC hW in_X8 0 30 rfl rfl (by decide) fl_X8_68 rfl dX8_note_52 ?_
    refine lv_iconst (v := 3) hx hb dX8_note_55 (by decide) ?_
    refine lv_iload_n hx hb dX8_note_56 rfl (lv_at hl 1 rfl) ?_
    refine lv_imul hx hb dX8_note_57 ?_
    refine lv_iload_n hx hb dX8_note_58 rfl (lv_at hl 2 rfl) ?_
    refine lv_iadd hx hb dX8_note_59 ?_
    refine lv_iload_n hx hb dX8_note_60 rfl (lv_at hl 3 rfl) ?_
    obtain ⟨s4, h4, hf⟩ := g_bnd hf
    refine gs_iast (ws' := w_X8_note cI cZ cJ a_t a_t_calls a_t_latest a_t_differ a_t_parameters a_t_length a_t_newLength a_t_first a_t_now a_t_anew a_t_table a_t_inputs a_t_met a_t_any a_t_number a_t_outAny a_t_out a_t_at a_t_in a_t_back a_t_register a_t_output t_code t_own t_count t_tableSize t_given t_known t_news t_depth t_steps t_taken t_shown t_outcome t_calls s4 s3) hC hW 2 h4 rfl rfl dX8_note_61 (fun H locs hW => ?_)
    obtain rfl := Option.some.inj hf
    exact gs_rv hC hW rfl dX8_note_62
  · replace hf := (if_pos c2).symm.trans hf
    refine lv_aload_n hx hb dX8_note_22 rfl (lv_at hl 0 rfl) ?_
    refine gs_get hC hW in_X8 0 29 rfl rfl (by decide) fl_X8_65 rfl dX8_note_23 ?_
    refine lv_iload_n hx hb dX8_note_26 rfl (lv_at hl 1 rfl) ?_
    obtain ⟨v5, h5, hf⟩ := g_bnd hf
    refine gs_iald hC hW 1 h5 rfl dX8_note_27 ?_
    refine lv_if_le (tgt := 49) hx hb dX8_note_28 (by decide) (fun c6 => ?_) (fun c6 => ?_)
    · replace hf := (if_pos c6).symm.trans hf
      refine lv_iconst (v := 0) hx hb dX8_note_49 (by decide) ?_
      obtain ⟨s7, h7, hf⟩ := g_bnd hf
      refine gs_zast (ws' := w_X8_note cI cZ cJ a_t a_t_calls a_t_latest a_t_differ a_t_parameters a_t_length a_t_newLength a_t_first a_t_now a_t_anew a_t_table a_t_inputs a_t_met a_t_any a_t_number a_t_outAny a_t_out a_t_at a_t_in a_t_back a_t_register a_t_output t_code t_own t_count t_tableSize t_given t_known t_news t_depth t_steps t_taken t_shown t_outcome t_calls t_latest s7) hC hW 3 h7 rfl rfl dX8_note_50 (fun H locs hW => ?_)
      refine lv_aload_n hx hb dX8_note_51 rfl (lv_at hl 0 rfl) ?_
      refine gs_get hC hW in_X8 0 30 rfl rfl (by decide) fl_X8_68 rfl dX8_note_52 ?_
      refine lv_iconst (v := 3) hx hb dX8_note_55 (by decide) ?_
      refine lv_iload_n hx hb dX8_note_56 rfl (lv_at hl 1 rfl) ?_
      refine lv_imul hx hb dX8_note_57 ?_
      refine lv_iload_n hx hb dX8_note_58 rfl (lv_at hl 2 rfl) ?_
      refine lv_iadd hx hb dX8_note_59 ?_
      refine lv_iload_n hx hb dX8_note_60 rfl (lv_at hl 3 rfl) ?_
      obtain ⟨s8, h8, hf⟩ := g_bnd hf
      refine gs_iast (ws' := w_X8_note cI cZ cJ a_t a_t_calls a_t_latest a_t_differ a_t_parameters a_t_length a_t_newLength a_t_first a_t_now a_t_anew a_t_table a_t_inputs a_t_met a_t_any a_t_number a_t_outAny a_t_out a_t_at a_t_in a_t_back a_t_register a_t_output t_code t_own t_count t_tableSize t_given t_known t_news t_depth t_steps t_taken t_shown t_outcome t_calls s8 s7) hC hW 2 h8 rfl rfl dX8_note_61 (fun H locs hW => ?_)
      obtain rfl := Option.some.inj hf
      exact gs_rv hC hW rfl dX8_note_62
    · replace hf := (if_neg c6).symm.trans hf
      refine lv_aload_n hx hb dX8_note_31 rfl (lv_at hl 0 rfl) ?_
      refine gs_get hC hW in_X8 0 30 rfl rfl (by decide) fl_X8_68 rfl dX8_note_32 ?_
      refine lv_iconst (v := 3) hx hb dX8_note_35 (by decide) ?_
      refine lv_iload_n hx hb dX8_note_36 rfl (lv_at hl 1 rfl) ?_
      refine lv_imul hx hb dX8_note_37 ?_
      refine lv_iload_n hx hb dX8_note_38 rfl (lv_at hl 2 rfl) ?_
      refine lv_iadd hx hb dX8_note_39 ?_
      obtain ⟨v9, h9, hf⟩ := g_bnd hf
      refine gs_iald hC hW 2 h9 rfl dX8_note_40 ?_
      refine lv_iload_n hx hb dX8_note_41 rfl (lv_at hl 3 rfl) ?_
      refine lv_icmp_eq (tgt := 49) hx hb dX8_note_42 (by decide) (fun c10 => ?_) (fun c10 => ?_)
      · replace hf := (if_pos c10).symm.trans hf
        refine lv_iconst (v := 0) hx hb dX8_note_49 (by decide) ?_
        obtain ⟨s11, h11, hf⟩ := g_bnd hf
        refine gs_zast (ws' := w_X8_note cI cZ cJ a_t a_t_calls a_t_latest a_t_differ a_t_parameters a_t_length a_t_newLength a_t_first a_t_now a_t_anew a_t_table a_t_inputs a_t_met a_t_any a_t_number a_t_outAny a_t_out a_t_at a_t_in a_t_back a_t_register a_t_output t_code t_own t_count t_tableSize t_given t_known t_news t_depth t_steps t_taken t_shown t_outcome t_calls t_latest s11) hC hW 3 h11 rfl rfl dX8_note_50 (fun H locs hW => ?_)
        refine lv_aload_n hx hb dX8_note_51 rfl (lv_at hl 0 rfl) ?_
        refine gs_get hC hW in_X8 0 30 rfl rfl (by decide) fl_X8_68 rfl dX8_note_52 ?_
        refine lv_iconst (v := 3) hx hb dX8_note_55 (by decide) ?_
        refine lv_iload_n hx hb dX8_note_56 rfl (lv_at hl 1 rfl) ?_
        refine lv_imul hx hb dX8_note_57 ?_
        refine lv_iload_n hx hb dX8_note_58 rfl (lv_at hl 2 rfl) ?_
        refine lv_iadd hx hb dX8_note_59 ?_
        refine lv_iload_n hx hb dX8_note_60 rfl (lv_at hl 3 rfl) ?_
        obtain ⟨s12, h12, hf⟩ := g_bnd hf
        refine gs_iast (ws' := w_X8_note cI cZ cJ a_t a_t_calls a_t_latest a_t_differ a_t_parameters a_t_length a_t_newLength a_t_first a_t_now a_t_anew a_t_table a_t_inputs a_t_met a_t_any a_t_number a_t_outAny a_t_out a_t_at a_t_in a_t_back a_t_register a_t_output t_code t_own t_count t_tableSize t_given t_known t_news t_depth t_steps t_taken t_shown t_outcome t_calls s12 s11) hC hW 2 h12 rfl rfl dX8_note_61 (fun H locs hW => ?_)
        obtain rfl := Option.some.inj hf
        exact gs_rv hC hW rfl dX8_note_62
      · replace hf := (if_neg c10).symm.trans hf
        refine lv_iconst (v := 1) hx hb dX8_note_45 (by decide) ?_
        refine lv_goto (tgt := 50) hx hb dX8_note_46 (by decide) ?_
        obtain ⟨s13, h13, hf⟩ := g_bnd hf
        refine gs_zast (ws' := w_X8_note cI cZ cJ a_t a_t_calls a_t_latest a_t_differ a_t_parameters a_t_length a_t_newLength a_t_first a_t_now a_t_anew a_t_table a_t_inputs a_t_met a_t_any a_t_number a_t_outAny a_t_out a_t_at a_t_in a_t_back a_t_register a_t_output t_code t_own t_count t_tableSize t_given t_known t_news t_depth t_steps t_taken t_shown t_outcome t_calls t_latest s13) hC hW 3 h13 rfl rfl dX8_note_50 (fun H locs hW => ?_)
        refine lv_aload_n hx hb dX8_note_51 rfl (lv_at hl 0 rfl) ?_
        refine gs_get hC hW in_X8 0 30 rfl rfl (by decide) fl_X8_68 rfl dX8_note_52 ?_
        refine lv_iconst (v := 3) hx hb dX8_note_55 (by decide) ?_
        refine lv_iload_n hx hb dX8_note_56 rfl (lv_at hl 1 rfl) ?_
        refine lv_imul hx hb dX8_note_57 ?_
        refine lv_iload_n hx hb dX8_note_58 rfl (lv_at hl 2 rfl) ?_
        refine lv_iadd hx hb dX8_note_59 ?_
        refine lv_iload_n hx hb dX8_note_60 rfl (lv_at hl 3 rfl) ?_
        obtain ⟨s14, h14, hf⟩ := g_bnd hf
        refine gs_iast (ws' := w_X8_note cI cZ cJ a_t a_t_calls a_t_latest a_t_differ a_t_parameters a_t_length a_t_newLength a_t_first a_t_now a_t_anew a_t_table a_t_inputs a_t_met a_t_any a_t_number a_t_outAny a_t_out a_t_at a_t_in a_t_back a_t_register a_t_output t_code t_own t_count t_tableSize t_given t_known t_news t_depth t_steps t_taken t_shown t_outcome t_calls s14 s13) hC hW 2 h14 rfl rfl dX8_note_61 (fun H locs hW => ?_)
        obtain rfl := Option.some.inj hf
        exact gs_rv hC hW rfl dX8_note_62
