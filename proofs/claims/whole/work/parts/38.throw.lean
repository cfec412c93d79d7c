theorem gE_62 : g_E 62 66 "java/lang/IllegalArgumentException" := ⟨by decide +kernel, by decide +kernel, gw_i 319 (by decide +kernel) rfl, gw_i 68 (by decide +kernel) rfl, by decide +kernel, by decide +kernel⟩
theorem lk_X7_84 : Cond.methodLink RX7 84 yX4_addFunction ∈ gw := gw_i 408 (by decide +kernel) rfl
theorem gE_79 : g_E 79 83 "java/lang/IllegalStateException" := ⟨by decide +kernel, by decide +kernel, gw_i 392 (by decide +kernel) rfl, gw_i 69 (by decide +kernel) rfl, by decide +kernel, by decide +kernel⟩
theorem fs_X7_95 : Cond.fieldLink RX7 95 "ConstantSpread" "OPERANDS_USED" "[I" ∈ gw := gw_i 437 (by decide +kernel) rfl
theorem lk_X7_99 : Cond.methodLink RX7 99 yX7_areOperands ∈ gw := gw_i 439 (by decide +kernel) rfl
theorem yk_X7_areOperands : g_Y yX7_areOperands cX7_areOperands 4 (some .boolean) 4 := ⟨gw_i 441 (by decide +kernel) rfl, gw_i 56 (by decide +kernel) rfl, by decide +kernel, by decide +kernel, by decide +kernel⟩
theorem is_X7_areOperands : Cond.static yX7_areOperands ∈ gw := gw_i 440 (by decide +kernel) rfl
theorem yk_X7_isFitX : g_Y yX7_isFitX cX7_isFitX 3 (some .boolean) 2 := ⟨gw_i 451 (by decide +kernel) rfl, gw_i 56 (by decide +kernel) rfl, by decide +kernel, by decide +kernel, by decide +kernel⟩
theorem lk_X7_103 : Cond.methodLink RX7 103 yX7_isFitX ∈ gw := gw_i 448 (by decide +kernel) rfl
theorem iv_X7_isFitX : Cond.instanceMethod yX7_isFitX ∈ gw ∧ Cond.selects RX7 yX7_isFitX yX7_isFitX ∈ gw := ⟨gw_i 450 (by decide +kernel) rfl, gw_i 1 (by decide +kernel) rfl⟩
theorem fl_X7_109 : Cond.fieldLink RX7 109 (TX4 3).1 (TX4 3).2.1 (TX4 3).2.2.1 ∈ gw := gw_i 99 (by decide +kernel) rfl
theorem yk_X4_addStatement : g_Y yX4_addStatement cX4_addStatement 6 (some .int) 4 := ⟨gw_i 457 (by decide +kernel) rfl, gw_i 57 (by decide +kernel) rfl, by decide +kernel, by decide +kernel, by decide +kernel⟩
theorem lk_X7_114 : Cond.methodLink RX7 114 yX4_addStatement ∈ gw := gw_i 454 (by decide +kernel) rfl
theorem iv_X4_addStatement : Cond.instanceMethod yX4_addStatement ∈ gw ∧ Cond.selects RX4 yX4_addStatement yX4_addStatement ∈ gw := ⟨gw_i 455 (by decide +kernel) rfl, gw_i 456 (by decide +kernel) rfl⟩
theorem lk_X7_118 : Cond.methodLink RX7 118 yX4_putField ∈ gw := gw_i 465 (by decide +kernel) rfl
theorem gE_88 : g_E 88 92 "java/lang/IndexOutOfBoundsException" := ⟨by decide +kernel, by decide +kernel, gw_i 420 (by decide +kernel) rfl, gw_i 70 (by decide +kernel) rfl, by decide +kernel, by decide +kernel⟩
theorem fl_X7_122 : Cond.fieldLink RX7 122 (TX4 1).1 (TX4 1).2.1 (TX4 1).2.2.1 ∈ gw := gw_i 91 (by decide +kernel) rfl
theorem yk_X4_addEntry : g_Y yX4_addEntry cX4_addEntry 2 (some .int) 1 := ⟨gw_i 477 (by decide +kernel) rfl, gw_i 57 (by decide +kernel) rfl, by decide +kernel, by decide +kernel, by decide +kernel⟩
theorem lk_X7_127 : Cond.methodLink RX7 127 yX4_addEntry ∈ gw := gw_i 474 (by decide +kernel) rfl
theorem iv_X4_addEntry : Cond.instanceMethod yX4_addEntry ∈ gw ∧ Cond.selects RX4 yX4_addEntry yX4_addEntry ∈ gw := ⟨gw_i 475 (by decide +kernel) rfl, gw_i 476 (by decide +kernel) rfl⟩
theorem yk_X3_makeNewProgram : g_Y yX3_makeNewProgram cX3_makeNewProgram 3 (none : Option Jvm.ClassFile.FieldType) 0 := ⟨gw_i 615 (by decide +kernel) rfl, gw_i 61 (by decide +kernel) rfl, by decide +kernel, by decide +kernel, by decide +kernel⟩
theorem lk_X7_151 : Cond.methodLink RX7 151 yX3_makeNewProgram ∈ gw := gw_i 612 (by decide +kernel) rfl
theorem iv_X3_makeNewProgram : Cond.instanceMethod yX3_makeNewProgram ∈ gw ∧ Cond.selects RX3 yX3_makeNewProgram yX3_makeNewProgram ∈ gw := ⟨gw_i 613 (by decide +kernel) rfl, gw_i 614 (by decide +kernel) rfl⟩
theorem yk_X1_countReached : g_Y yX1_countReached cX1_countReached 4 (some .int) 1 := ⟨gw_i 645 (by decide +kernel) rfl, gw_i 58 (by decide +kernel) rfl, by decide +kernel, by decide +kernel, by decide +kernel⟩
theorem lk_X7_154 : Cond.methodLink RX7 154 yX1_countReached ∈ gw := gw_i 642 (by decide +kernel) rfl
theorem iv_X1_countReached : Cond.instanceMethod yX1_countReached ∈ gw ∧ Cond.selects RX1 yX1_countReached yX1_countReached ∈ gw := ⟨gw_i 643 (by decide +kernel) rfl, gw_i 644 (by decide +kernel) rfl⟩
theorem yk_X3_copyForSpecialCall : g_Y yX3_copyForSpecialCall cX3_copyForSpecialCall 2 (some .boolean) 0 := ⟨gw_i 581 (by decide +kernel) rfl, gw_i 61 (by decide +kernel) rfl, by decide +kernel, by decide +kernel, by decide +kernel⟩
theorem lk_X7_147 : Cond.methodLink RX7 147 yX3_copyForSpecialCall ∈ gw := gw_i 578 (by decide +kernel) rfl
theorem iv_X3_copyForSpecialCall : Cond.instanceMethod yX3_copyForSpecialCall ∈ gw ∧ Cond.selects RX3 yX3_copyForSpecialCall yX3_copyForSpecialCall ∈ gw := ⟨gw_i 579 (by decide +kernel) rfl, gw_i 580 (by decide +kernel) rfl⟩
theorem yk_X0_find : g_Y yX0_find cX0_find 3 (none : Option Jvm.ClassFile.FieldType) 0 := ⟨gw_i 497 (by decide +kernel) rfl, gw_i 59 (by decide +kernel) rfl, by decide +kernel, by decide +kernel, by decide +kernel⟩
theorem lk_X7_144 : Cond.methodLink RX7 144 yX0_find ∈ gw := gw_i 494 (by decide +kernel) rfl
theorem iv_X0_find : Cond.instanceMethod yX0_find ∈ gw ∧ Cond.selects RX0 yX0_find yX0_find ∈ gw := ⟨gw_i 495 (by decide +kernel) rfl, gw_i 496 (by decide +kernel) rfl⟩
theorem yk_X4_becomeLike : g_Y yX4_becomeLike cX4_becomeLike 2 (none : Option Jvm.ClassFile.FieldType) 1 := ⟨gw_i 490 (by decide +kernel) rfl, gw_i 57 (by decide +kernel) rfl, by decide +kernel, by decide +kernel, by decide +kernel⟩
theorem lk_X7_140 : Cond.methodLink RX7 140 yX4_becomeLike ∈ gw := gw_i 487 (by decide +kernel) rfl
theorem iv_X4_becomeLike : Cond.instanceMethod yX4_becomeLike ∈ gw ∧ Cond.selects RX4 yX4_becomeLike yX4_becomeLike ∈ gw := ⟨gw_i 488 (by decide +kernel) rfl, gw_i 489 (by decide +kernel) rfl⟩
theorem lk_X7_218 : Cond.methodLink RX7 218 yX4_placeOf ∈ gw := gw_i 660 (by decide +kernel) rfl
theorem yk_X7_askedPlace : g_Y yX7_askedPlace cX7_askedPlace 4 (some .int) 3 := ⟨gw_i 657 (by decide +kernel) rfl, gw_i 56 (by decide +kernel) rfl, by decide +kernel, by decide +kernel, by decide +kernel⟩
theorem lk_X7_157 : Cond.methodLink RX7 157 yX7_askedPlace ∈ gw := gw_i 654 (by decide +kernel) rfl
theorem iv_X7_askedPlace : Cond.instanceMethod yX7_askedPlace ∈ gw ∧ Cond.selects RX7 yX7_askedPlace yX7_askedPlace ∈ gw := ⟨gw_i 656 (by decide +kernel) rfl, gw_i 20 (by decide +kernel) rfl⟩
theorem fl_X7_161 : Cond.fieldLink RX7 161 (TX1 0).1 (TX1 0).2.1 (TX1 0).2.2.1 ∈ gw := gw_i 127 (by decide +kernel) rfl
theorem lk_X7_165 : Cond.methodLink RX7 165 yX1_hasNumber ∈ gw := gw_i 661 (by decide +kernel) rfl
theorem lk_X7_168 : Cond.methodLink RX7 168 yX1_numberOf ∈ gw := gw_i 669 (by decide +kernel) rfl
theorem lk_X7_178 : Cond.methodLink RX7 178 yX4_fieldOf ∈ gw := gw_i 679 (by decide +kernel) rfl
theorem yk_X2_execute : g_Y yX2_execute cX2_execute 7 (some .int) 2 := ⟨gw_i 692 (by decide +kernel) rfl, gw_i 63 (by decide +kernel) rfl, by decide +kernel, by decide +kernel, by decide +kernel⟩
theorem lk_X7_185 : Cond.methodLink RX7 185 yX2_execute ∈ gw := gw_i 689 (by decide +kernel) rfl
theorem iv_X2_execute : Cond.instanceMethod yX2_execute ∈ gw ∧ Cond.selects RX2 yX2_execute yX2_execute ∈ gw := ⟨gw_i 690 (by decide +kernel) rfl, gw_i 691 (by decide +kernel) rfl⟩
theorem fl_X7_197 : Cond.fieldLink RX7 197 (TX6 2).1 (TX6 2).2.1 (TX6 2).2.2.1 ∈ gw := gw_i 203 (by decide +kernel) rfl
theorem fl_X7_202 : Cond.fieldLink RX7 202 (TX6 3).1 (TX6 3).2.1 (TX6 3).2.2.1 ∈ gw := gw_i 205 (by decide +kernel) rfl
theorem lk_X7_205 : Cond.methodLink RX7 205 yX7_isTallied ∈ gw := gw_i 763 (by decide +kernel) rfl
theorem yk_X7_isTallied : g_Y yX7_isTallied cX7_isTallied 2 (some .boolean) 2 := ⟨gw_i 765 (by decide +kernel) rfl, gw_i 56 (by decide +kernel) rfl, by decide +kernel, by decide +kernel, by decide +kernel⟩
theorem is_X7_isTallied : Cond.static yX7_isTallied ∈ gw := gw_i 764 (by decide +kernel) rfl
theorem fl_X7_210 : Cond.fieldLink RX7 210 (TX6 5).1 (TX6 5).2.1 (TX6 5).2.2.1 ∈ gw := gw_i 209 (by decide +kernel) rfl
theorem fl_X7_213 : Cond.fieldLink RX7 213 (TX6 4).1 (TX6 4).2.1 (TX6 4).2.2.1 ∈ gw := gw_i 207 (by decide +kernel) rfl
abbrev w_X7_function (cI cZ cJ : ClassId) (a_t : Nat) (a_tb : Nat) (a_tb_parameterCounts : Nat) (a_tb_lengths : Nat) (a_ta : Nat) (a_tk : Nat) (a_tf : Nat) (a_tg : Nat) (a_ty : Nat) (a_th : Nat) (a_tb_fields : Nat) (a_tb_entries : Nat) (t_analysed : Int32) (tb_functionCount : Int32) (tb_entryCount : Int32) (tb_parameterCounts : Nat → Int32) (tb_lengths : Nat → Int32) : va_W := [(a_t, .inr (7, [.ref a_tb, .ref a_ta, .ref a_tk, .ref a_tf, .ref a_tg, .ref a_ty, .ref a_th, .int t_analysed])), (a_tb, .inr (4, [.int tb_functionCount, .int tb_entryCount, .ref a_tb_parameterCounts, .ref a_tb_lengths, .ref a_tb_fields, .ref a_tb_entries])), (a_tb_parameterCounts, .inl (cI, 12, .inl tb_parameterCounts)), (a_tb_lengths, .inl (cI, 12, .inl tb_lengths))]
abbrev r_X7_function : Room := { frames := 6, cells := 1, slots := 6, locals := 82 }
def f_X7_function (x1 : Int32) (t_analysed : Int32) (tb_functionCount : Int32) (tb_parameterCounts : Nat → Int32) (tb_lengths : Nat → Int32) : Option ((Int32 × Int32 × Int32 × (Nat → Int32) × (Nat → Int32)) ⊕ String) := if x1 < 0 then some (.inr "java/lang/IllegalArgumentException") else if x1 ≤ 3 then (f_X4_hasFunction 0 tb_functionCount).bind (fun o3 => if o3 = 0 then if x1 = 0 then if tb_functionCount < 6 then (f_X4_addFunction x1 tb_functionCount tb_parameterCounts tb_lengths).bind (fun o9 => some (.inl (o9.1, 0, o9.2.1, o9.2.2.1, o9.2.2.2))) else some (.inr "java/lang/IllegalStateException") else some (.inr "java/lang/IllegalArgumentException") else if tb_functionCount < 6 then (f_X4_addFunction x1 tb_functionCount tb_parameterCounts tb_lengths).bind (fun o6 => some (.inl (o6.1, 0, o6.2.1, o6.2.2.1, o6.2.2.2))) else some (.inr "java/lang/IllegalStateException")) else some (.inr "java/lang/IllegalArgumentException")
set_option maxHeartbeats 4000000 in
set_option maxRecDepth 100000 in
theorem k_X7_function (l : Launch) (tA : Nat) (dC : Nat → ClassId) (dI : Nat → Nat → Nat) (cI cZ cJ : ClassId) (hlt : l.stackTraces = false) (a_t : Nat) (a_tb : Nat) (a_tb_parameterCounts : Nat) (a_tb_lengths : Nat) (a_ta : Nat) (a_tk : Nat) (a_tf : Nat) (a_tg : Nat) (a_ty : Nat) (a_th : Nat) (a_tb_fields : Nat) (a_tb_entries : Nat) (x1 : Int32) (t_analysed : Int32) (tb_functionCount : Int32) (tb_entryCount : Int32) (tb_parameterCounts : Nat → Int32) (tb_lengths : Nat → Int32) (out : (Int32 × Int32 × Int32 × (Nat → Int32) × (Nat → Int32)) ⊕ String) (hf : f_X7_function x1 t_analysed tb_functionCount tb_parameterCounts tb_lengths = some out) : g_MX l yX7_function cX7_function 2 (some .int) r_X7_function tA dC dI cI cZ cJ [.ref a_t, .int x1] (w_X7_function cI cZ cJ a_t a_tb a_tb_parameterCounts a_tb_lengths a_ta a_tk a_tf a_tg a_ty a_th a_tb_fields a_tb_entries t_analysed tb_functionCount tb_entryCount tb_parameterCounts tb_lengths) (fun u => w_X7_function cI cZ cJ a_t a_tb a_tb_parameterCounts a_tb_lengths a_ta a_tk a_tf a_tg a_ty a_th a_tb_fields a_tb_entries u.2.1 u.2.2.1 tb_entryCount u.2.2.2.1 u.2.2.2.2) (fun u => u.1) out := by
  unfold f_X7_function at hf
  refine ge_x (by decide) (Nat.le_of_ble_eq_true rfl) (fun p e s m below meth c A H locs ls hC hxt hH hW hl => ?_)
  have hC : g_C p s m meth c _ cX7_function 2 (some .int) RX7 := hC
  have hx := hC.1
  have hb := hC.2.1
  have hown := hC.2.2.2.2.1
  have hts := hC.2.2.2.2.2.1
  have hl : lv_has ls 2 [(0, .ref a_t), (1, .int x1)] := hl
  refine lv_iload_n hx hb dX7_function_0 rfl (lv_at hl 1 rfl) ?_
  refine lv_if_lt (tgt := 9) hx hb dX7_function_1 (by decide) (fun c1 => ?_) (fun c1 => ?_)
  · replace hf := (if_pos c1).symm.trans hf
    obtain rfl := Option.some.inj hf
    exact gs_throw (text := "a function has 0 to 3 parameters") hC hW hH hlt hxt gE_62 (by decide) rfl rfl hl.1 dX7_function_9 dX7_function_12 dX7_function_13 dX7_function_15 dX7_function_18 (by decide) (by decide) (by decide) (by decide)
  · replace hf := (if_neg c1).symm.trans hf
    refine lv_iload_n hx hb dX7_function_4 rfl (lv_at hl 1 rfl) ?_
    refine lv_iconst (v := 3) hx hb dX7_function_5 (by decide) ?_
    refine lv_icmp_le (tgt := 19) hx hb dX7_function_6 (by decide) (fun c2 => ?_) (fun c2 => ?_)
    · replace hf := (if_pos c2).symm.trans hf
      refine lv_aload_n hx hb dX7_function_19 rfl (lv_at hl 0 rfl) ?_
      refine gs_get hC hW in_X7 0 0 rfl rfl (by decide) fl_X7_12 rfl dX7_function_20 ?_
      refine lv_iconst (v := 0) hx hb dX7_function_23 (by decide) ?_
      obtain ⟨o3, h3, hf⟩ := g_bnd hf
      refine gs_callVi (ws' := w_X7_function cI cZ cJ a_t a_tb a_tb_parameterCounts a_tb_lengths a_ta a_tk a_tf a_tg a_ty a_th a_tb_fields a_tb_entries t_analysed tb_functionCount tb_entryCount tb_parameterCounts tb_lengths) hC hW (k_X4_hasFunction l tA dC dI cI cZ cJ a_tb a_tb_parameterCounts a_tb_lengths a_tb_fields a_tb_entries 0 tb_functionCount tb_entryCount _ h3) yk_X4_hasFunction lk_X7_69 iv_X4_hasFunction ⟨rfl, rfl⟩ ⟨Nat.le_of_ble_eq_true rfl, Nat.le_of_ble_eq_true rfl⟩ hl.1 1 rfl rfl [1] [0, 2, 3] [0, 3, 1, 2] rfl rfl rfl rfl (by decide) rfl rfl rfl rfl (Nat.le_of_ble_eq_true rfl) dX7_function_24 ⟨by decide, by decide⟩ (fun H locs hW => ?_)
      refine lv_if_ne (tgt := 44) hx hb dX7_function_27 (by decide) (fun c4 => ?_) (fun c4 => ?_)
      · replace hf := (if_neg c4).symm.trans hf
        refine lv_aload_n hx hb dX7_function_44 rfl (lv_at hl 0 rfl) ?_
        refine gs_get hC hW in_X7 0 0 rfl rfl (by decide) fl_X7_12 rfl dX7_function_45 ?_
        refine gs_get hC hW in_X4 1 0 rfl rfl (by decide) fl_X7_75 rfl dX7_function_48 ?_
        refine lv_bipush (v := 6) hx hb dX7_function_51 (by decide) ?_
        refine lv_icmp_lt (tgt := 66) hx hb dX7_function_53 (by decide) (fun c5 => ?_) (fun c5 => ?_)
        · replace hf := (if_pos c5).symm.trans hf
          refine lv_aload_n hx hb dX7_function_66 rfl (lv_at hl 0 rfl) ?_
          refine lv_iconst (v := 0) hx hb dX7_function_67 (by decide) ?_
          refine gs_put (ws' := w_X7_function cI cZ cJ a_t a_tb a_tb_parameterCounts a_tb_lengths a_ta a_tk a_tf a_tg a_ty a_th a_tb_fields a_tb_entries 0 tb_functionCount tb_entryCount tb_parameterCounts tb_lengths) hC hW in_X7 tyX7_ok nmX7 0 7 rfl rfl (by decide) fl_X7_58 rfl (by decide) (by decide) (Nat.le_of_ble_eq_true rfl) rfl dX7_function_68 (fun H locs hW => ?_)
          refine lv_aload_n hx hb dX7_function_71 rfl (lv_at hl 0 rfl) ?_
          refine gs_get hC hW in_X7 0 0 rfl rfl (by decide) fl_X7_12 rfl dX7_function_72 ?_
          refine lv_iload_n hx hb dX7_function_75 rfl (lv_at hl 1 rfl) ?_
          obtain ⟨o6, h6, hf⟩ := g_bnd hf
          refine gs_callVi (ws' := w_X7_function cI cZ cJ a_t a_tb a_tb_parameterCounts a_tb_lengths a_ta a_tk a_tf a_tg a_ty a_th a_tb_fields a_tb_entries 0 o6.2.1 tb_entryCount o6.2.2.1 o6.2.2.2) hC hW (k_X4_addFunction l tA dC dI cI cZ cJ a_tb a_tb_parameterCounts a_tb_lengths a_tb_fields a_tb_entries x1 tb_functionCount tb_entryCount tb_parameterCounts tb_lengths _ h6) yk_X4_addFunction lk_X7_84 iv_X4_addFunction ⟨rfl, rfl⟩ ⟨Nat.le_of_ble_eq_true rfl, Nat.le_of_ble_eq_true rfl⟩ hl.1 1 rfl rfl [1, 2, 3] [0] [0, 1, 2, 3] rfl rfl rfl rfl (by decide) rfl rfl rfl rfl (Nat.le_of_ble_eq_true rfl) dX7_function_76 ⟨by decide, by decide⟩ (fun H locs hW => ?_)
          obtain rfl := Option.some.inj hf
          exact gs_rxi (o6.1, 0, o6.2.1, o6.2.2.1, o6.2.2.2) hC hW rfl rfl rfl (by decide) (by decide) dX7_function_79
        · replace hf := (if_neg c5).symm.trans hf
          obtain rfl := Option.some.inj hf
          exact gs_throw (text := "there are 6 functions") hC hW hH hlt hxt gE_79 (by decide) rfl rfl hl.1 dX7_function_56 dX7_function_59 dX7_function_60 dX7_function_62 dX7_function_65 (by decide) (by decide) (by decide) (by decide)
      · replace hf := (if_pos c4).symm.trans hf
        refine lv_iload_n hx hb dX7_function_30 rfl (lv_at hl 1 rfl) ?_
        refine lv_if_eq (tgt := 44) hx hb dX7_function_31 (by decide) (fun c7 => ?_) (fun c7 => ?_)
        · replace hf := (if_pos c7).symm.trans hf
          refine lv_aload_n hx hb dX7_function_44 rfl (lv_at hl 0 rfl) ?_
          refine gs_get hC hW in_X7 0 0 rfl rfl (by decide) fl_X7_12 rfl dX7_function_45 ?_
          refine gs_get hC hW in_X4 1 0 rfl rfl (by decide) fl_X7_75 rfl dX7_function_48 ?_
          refine lv_bipush (v := 6) hx hb dX7_function_51 (by decide) ?_
          refine lv_icmp_lt (tgt := 66) hx hb dX7_function_53 (by decide) (fun c8 => ?_) (fun c8 => ?_)
          · replace hf := (if_pos c8).symm.trans hf
            refine lv_aload_n hx hb dX7_function_66 rfl (lv_at hl 0 rfl) ?_
            refine lv_iconst (v := 0) hx hb dX7_function_67 (by decide) ?_
            refine gs_put (ws' := w_X7_function cI cZ cJ a_t a_tb a_tb_parameterCounts a_tb_lengths a_ta a_tk a_tf a_tg a_ty a_th a_tb_fields a_tb_entries 0 tb_functionCount tb_entryCount tb_parameterCounts tb_lengths) hC hW in_X7 tyX7_ok nmX7 0 7 rfl rfl (by decide) fl_X7_58 rfl (by decide) (by decide) (Nat.le_of_ble_eq_true rfl) rfl dX7_function_68 (fun H locs hW => ?_)
            refine lv_aload_n hx hb dX7_function_71 rfl (lv_at hl 0 rfl) ?_
            refine gs_get hC hW in_X7 0 0 rfl rfl (by decide) fl_X7_12 rfl dX7_function_72 ?_
            refine lv_iload_n hx hb dX7_function_75 rfl (lv_at hl 1 rfl) ?_
            obtain ⟨o9, h9, hf⟩ := g_bnd hf
            refine gs_callVi (ws' := w_X7_function cI cZ cJ a_t a_tb a_tb_parameterCounts a_tb_lengths a_ta a_tk a_tf a_tg a_ty a_th a_tb_fields a_tb_entries 0 o9.2.1 tb_entryCount o9.2.2.1 o9.2.2.2) hC hW (k_X4_addFunction l tA dC dI cI cZ cJ a_tb a_tb_parameterCounts a_tb_lengths a_tb_fields a_tb_entries x1 tb_functionCount tb_entryCount tb_parameterCounts tb_lengths _ h9) yk_X4_addFunction lk_X7_84 iv_X4_addFunction ⟨rfl, rfl⟩ ⟨Nat.le_of_ble_eq_true rfl, Nat.le_of_ble_eq_true rfl⟩ hl.1 1 rfl rfl [1, 2, 3] [0] [0, 1, 2, 3] rfl rfl rfl rfl (by decide) rfl rfl rfl rfl (Nat.le_of_ble_eq_true rfl) dX7_function_76 ⟨by decide, by decide⟩ (fun H locs hW => ?_)
            obtain rfl := Option.some.inj hf
            exact gs_rxi (o9.1, 0, o9.2.1, o9.2.2.1, o9.2.2.2) hC hW rfl rfl rfl (by decide) (by decide) dX7_function_79
          · replace hf := (if_neg c8).symm.trans hf
            obtain rfl := Option.some.inj hf
            exact gs_throw (text := "there are 6 functions") hC hW hH hlt hxt gE_79 (by decide) rfl rfl hl.1 dX7_function_56 dX7_function_59 dX7_function_60 dX7_function_62 dX7_function_65 (by decide) (by decide) (by decide) (by decide)
        · replace hf := (if_neg c7).symm.trans hf
          obtain rfl := Option.some.inj hf
          exact gs_throw (text := "main has no parameters") hC hW hH hlt hxt gE_62 (by decide) rfl rfl hl.1 dX7_function_34 dX7_function_37 dX7_function_38 dX7_function_40 dX7_function_43 (by decide) (by decide) (by decide) (by decide)
    · replace hf := (if_neg c2).symm.trans hf
      obtain rfl := Option.some.inj hf
      exact gs_throw (text := "a function has 0 to 3 parameters") hC hW hH hlt hxt gE_62 (by decide) rfl rfl hl.1 dX7_function_9 dX7_function_12 dX7_function_13 dX7_function_15 dX7_function_18 (by decide) (by decide) (by decide) (by decide)

abbrev w_X7_code (cI cZ cJ : ClassId) (a_t : Nat) (a_tb : Nat) (a_tb_lengths : Nat) (a_tb_fields : Nat) (a_ta : Nat) (a_tk : Nat) (a_tf : Nat) (a_tg : Nat) (a_ty : Nat) (a_th : Nat) (a_tb_parameterCounts : Nat) (a_tb_entries : Nat) (t_analysed : Int32) (tb_functionCount : Int32) (tb_entryCount : Int32) (tb_lengths : Nat → Int32) (tb_fields : Nat → Int32) : va_W := [(a_t, .inr (7, [.ref a_tb, .ref a_ta, .ref a_tk, .ref a_tf, .ref a_tg, .ref a_ty, .ref a_th, .int t_analysed])), (a_tb, .inr (4, [.int tb_functionCount, .int tb_entryCount, .ref a_tb_parameterCounts, .ref a_tb_lengths, .ref a_tb_fields, .ref a_tb_entries])), (a_tb_lengths, .inl (cI, 12, .inl tb_lengths)), (a_tb_fields, .inl (cI, 1152, .inl tb_fields))]
abbrev r_X7_code : Room := { frames := 6, cells := 1, slots := 6, locals := 82 }
def f_X7_code (x1 : Int32) (x2 : Int32) (x3 : Int32) (x4 : Int32) (x5 : Int32) (x6 : Int32) (t_analysed : Int32) (tb_functionCount : Int32) (tb_lengths : Nat → Int32) (tb_fields : Nat → Int32) : Option ((Int32 × Int32 × (Nat → Int32) × (Nat → Int32)) ⊕ String) := (f_X4_hasFunction x1 tb_functionCount).bind (fun o1 => if o1 = 0 then some (.inr "java/lang/IndexOutOfBoundsException") else if 12 < (x2 &&& 15) then some (.inr "java/lang/IllegalArgumentException") else if (x2 >>> (4 &&& 31)) < 0 then some (.inr "java/lang/IllegalArgumentException") else if (x2 >>> (4 &&& 31)) < 6 then (g_rd 13 g_usedI (x2 &&& 15)).bind (fun v6 => (f_X7_areOperands v6 x4 x5 x6).bind (fun o7 => if o7 = 0 then some (.inr "java/lang/IllegalArgumentException") else (f_X7_isFitX (x2 &&& 15) x3 tb_functionCount).bind (fun o9 => if o9 = 0 then some (.inr "java/lang/IllegalArgumentException") else (g_rd 12 tb_lengths x1).bind (fun v11 => if v11 < 16 then (f_X4_addStatement x1 (x2 &&& 15) (x2 >>> (4 &&& 31)) x3 tb_lengths tb_fields).bind (fun o13 => (f_X4_putField x1 o13.1 3 x4 o13.2.2).bind (fun o14 => (f_X4_putField x1 o13.1 4 x5 o14).bind (fun o15 => (f_X4_putField x1 o13.1 5 x6 o15).bind (fun o16 => some (.inl (o13.1, 0, o13.2.1, o16)))))) else some (.inr "java/lang/IllegalStateException"))))) else some (.inr "java/lang/IllegalArgumentException"))
set_option maxHeartbeats 4000000 in
set_option maxRecDepth 100000 in
theorem k_X7_code (l : Launch) (tA : Nat) (dC : Nat → ClassId) (dI : Nat → Nat → Nat) (cI cZ cJ : ClassId) (hlt : l.stackTraces = false) (a_t : Nat) (a_tb : Nat) (a_tb_lengths : Nat) (a_tb_fields : Nat) (a_ta : Nat) (a_tk : Nat) (a_tf : Nat) (a_tg : Nat) (a_ty : Nat) (a_th : Nat) (a_tb_parameterCounts : Nat) (a_tb_entries : Nat) (x1 : Int32) (x2 : Int32) (x3 : Int32) (x4 : Int32) (x5 : Int32) (x6 : Int32) (t_analysed : Int32) (tb_functionCount : Int32) (tb_entryCount : Int32) (tb_lengths : Nat → Int32) (tb_fields : Nat → Int32) (out : (Int32 × Int32 × (Nat → Int32) × (Nat → Int32)) ⊕ String) (hf : f_X7_code x1 x2 x3 x4 x5 x6 t_analysed tb_functionCount tb_lengths tb_fields = some out) : g_MX l yX7_code cX7_code 10 (some .int) r_X7_code tA dC dI cI cZ cJ [.ref a_t, .int x1, .int x2, .int x3, .int x4, .int x5, .int x6] (w_X7_code cI cZ cJ a_t a_tb a_tb_lengths a_tb_fields a_ta a_tk a_tf a_tg a_ty a_th a_tb_parameterCounts a_tb_entries t_analysed tb_functionCount tb_entryCount tb_lengths tb_fields) (fun u => w_X7_code cI cZ cJ a_t a_tb a_tb_lengths a_tb_fields a_ta a_tk a_tf a_tg a_ty a_th a_tb_parameterCounts a_tb_entries u.2.1 tb_functionCount tb_entryCount u.2.2.1 u.2.2.2) (fun u => u.1) out := by
  unfold f_X7_code at hf
  refine ge_x (by decide) (Nat.le_of_ble_eq_true rfl) (fun p e s m below meth c A H locs ls hC hxt hH hW hl => ?_)
  have hC : g_C p s m meth c _ cX7_code 10 (some .int) RX7 := hC
  have hx := hC.1
  have hb := hC.2.1
  have hown := hC.2.2.2.2.1
  have hts := hC.2.2.2.2.2.1
  have hl : lv_has ls 10 [(0, .ref a_t), (1, .int x1), (2, .int x2), (3, .int x3), (4, .int x4), (5, .int x5), (6, .int x6)] := hl
  refine lv_aload_n hx hb dX7_code_0 rfl (lv_at hl 0 rfl) ?_
  refine gs_get hC hW in_X7 0 0 rfl rfl (by decide) fl_X7_12 rfl dX7_code_1 ?_
  refine lv_iload_n hx hb dX7_code_4 rfl (lv_at hl 1 rfl) ?_
  obtain ⟨o1, h1, hf⟩ := g_bnd hf
  refine gs_callVi (ws' := w_X7_code cI cZ cJ a_t a_tb a_tb_lengths a_tb_fields a_ta a_tk a_tf a_tg a_ty a_th a_tb_parameterCounts a_tb_entries t_analysed tb_functionCount tb_entryCount tb_lengths tb_fields) hC hW (k_X4_hasFunction l tA dC dI cI cZ cJ a_tb a_tb_parameterCounts a_tb_lengths a_tb_fields a_tb_entries x1 tb_functionCount tb_entryCount _ h1) yk_X4_hasFunction lk_X7_69 iv_X4_hasFunction ⟨rfl, rfl⟩ ⟨Nat.le_of_ble_eq_true rfl, Nat.le_of_ble_eq_true rfl⟩ hl.1 1 rfl rfl [1] [0, 2, 3] [0, 3, 1, 2] rfl rfl rfl rfl (by decide) rfl rfl rfl rfl (Nat.le_of_ble_eq_true rfl) dX7_code_5 ⟨by decide, by decide⟩ (fun H locs hW => ?_)
  refine lv_if_ne (tgt := 21) hx hb dX7_code_8 (by decide) (fun c2 => ?_) (fun c2 => ?_)
  · replace hf := (if_neg c2).symm.trans hf
    refine lv_iload_n hx hb dX7_code_21 rfl (lv_at hl 2 rfl) ?_
    refine lv_bipush (v := 15) hx hb dX7_code_22 (by decide) ?_
    refine lv_iand hx hb dX7_code_24 ?_
    refine lv_istore (lv' := [(7, .int (x2 &&& 15)), (0, .ref a_t), (1, .int x1), (2, .int x2), (3, .int x3), (4, .int x4), (5, .int x5), (6, .int x6)]) hx hb dX7_code_25 hl (by decide) rfl (fun ls hl => ?_)
    refine lv_iload_n hx hb dX7_code_27 rfl (lv_at hl 3 rfl) ?_
    refine lv_iconst (v := 4) hx hb dX7_code_28 (by decide) ?_
    refine lv_ishr hx hb dX7_code_29 ?_
    refine lv_istore (lv' := [(8, .int (x2 >>> (4 &&& 31))), (7, .int (x2 &&& 15)), (0, .ref a_t), (1, .int x1), (2, .int x2), (3, .int x3), (4, .int x4), (5, .int x5), (6, .int x6)]) hx hb dX7_code_30 hl (by decide) rfl (fun ls hl => ?_)
    refine lv_iload hx hb dX7_code_32 (lv_at hl 1 rfl) ?_
    refine lv_bipush (v := 12) hx hb dX7_code_34 (by decide) ?_
    refine lv_icmp_gt (tgt := 51) hx hb dX7_code_36 (by decide) (fun c3 => ?_) (fun c3 => ?_)
    · replace hf := (if_pos c3).symm.trans hf
      obtain rfl := Option.some.inj hf
      exact gs_throw (text := "no such operation or register") hC hW hH hlt hxt gE_62 (by decide) rfl rfl hl.1 dX7_code_51 dX7_code_54 dX7_code_55 dX7_code_57 dX7_code_60 (by decide) (by decide) (by decide) (by decide)
    · replace hf := (if_neg c3).symm.trans hf
      refine lv_iload hx hb dX7_code_39 (lv_at hl 0 rfl) ?_
      refine lv_if_lt (tgt := 51) hx hb dX7_code_41 (by decide) (fun c4 => ?_) (fun c4 => ?_)
      · replace hf := (if_pos c4).symm.trans hf
        obtain rfl := Option.some.inj hf
        exact gs_throw (text := "no such operation or register") hC hW hH hlt hxt gE_62 (by decide) rfl rfl hl.1 dX7_code_51 dX7_code_54 dX7_code_55 dX7_code_57 dX7_code_60 (by decide) (by decide) (by decide) (by decide)
      · replace hf := (if_neg c4).symm.trans hf
        refine lv_iload hx hb dX7_code_44 (lv_at hl 0 rfl) ?_
        refine lv_bipush (v := 6) hx hb dX7_code_46 (by decide) ?_
        refine lv_icmp_lt (tgt := 61) hx hb dX7_code_48 (by decide) (fun c5 => ?_) (fun c5 => ?_)
        · replace hf := (if_pos c5).symm.trans hf
          refine gs_used hC hW fs_X7_95 dX7_code_61 ?_
          refine lv_iload hx hb dX7_code_64 (lv_at hl 1 rfl) ?_
          obtain ⟨v6, h6, hf⟩ := g_bnd hf
          refine gs_tald hC hW h6 dX7_code_66 ?_
          refine lv_iload hx hb dX7_code_67 (lv_at hl 6 rfl) ?_
          refine lv_iload hx hb dX7_code_69 (lv_at hl 7 rfl) ?_
          refine lv_iload hx hb dX7_code_71 (lv_at hl 8 rfl) ?_
          obtain ⟨o7, h7, hf⟩ := g_bnd hf
          refine gs_callSi (ws' := w_X7_code cI cZ cJ a_t a_tb a_tb_lengths a_tb_fields a_ta a_tk a_tf a_tg a_ty a_th a_tb_parameterCounts a_tb_entries t_analysed tb_functionCount tb_entryCount tb_lengths tb_fields) hC hW (k_X7_areOperands l tA dC dI cI cZ cJ v6 x4 x5 x6 _ h7) yk_X7_areOperands lk_X7_99 is_X7_areOperands ⟨rfl, rfl⟩ ⟨Nat.le_of_ble_eq_true rfl, Nat.le_of_ble_eq_true rfl⟩ hl.1 [] [0, 1, 2, 3] [0, 1, 2, 3] rfl rfl rfl rfl (by decide) rfl rfl rfl rfl (Nat.le_of_ble_eq_true rfl) dX7_code_73 ⟨by decide, by decide⟩ (fun H locs hW => ?_)
          refine lv_if_eq (tgt := 89) hx hb dX7_code_76 (by decide) (fun c8 => ?_) (fun c8 => ?_)
          · replace hf := (if_pos c8).symm.trans hf
            obtain rfl := Option.some.inj hf
            exact gs_throw (text := "an operand or X does not fit the operation") hC hW hH hlt hxt gE_62 (by decide) rfl rfl hl.1 dX7_code_89 dX7_code_92 dX7_code_93 dX7_code_95 dX7_code_98 (by decide) (by decide) (by decide) (by decide)
          · replace hf := (if_neg c8).symm.trans hf
            refine lv_aload_n hx hb dX7_code_79 rfl (lv_at hl 2 rfl) ?_
            refine lv_iload hx hb dX7_code_80 (lv_at hl 1 rfl) ?_
            refine lv_iload_n hx hb dX7_code_82 rfl (lv_at hl 5 rfl) ?_
            obtain ⟨o9, h9, hf⟩ := g_bnd hf
            refine gs_callVi (ws' := w_X7_code cI cZ cJ a_t a_tb a_tb_lengths a_tb_fields a_ta a_tk a_tf a_tg a_ty a_th a_tb_parameterCounts a_tb_entries t_analysed tb_functionCount tb_entryCount tb_lengths tb_fields) hC hW (k_X7_isFitX l tA dC dI cI cZ cJ a_t a_tb a_ta a_tk a_tf a_tg a_ty a_th a_tb_parameterCounts a_tb_lengths a_tb_fields a_tb_entries (x2 &&& 15) x3 t_analysed tb_functionCount tb_entryCount _ h9) yk_X7_isFitX lk_X7_103 iv_X7_isFitX ⟨rfl, rfl⟩ ⟨Nat.le_of_ble_eq_true rfl, Nat.le_of_ble_eq_true rfl⟩ hl.1 0 rfl rfl [0, 1] [2, 3] [2, 3, 0, 1] rfl rfl rfl rfl (by decide) rfl rfl rfl rfl (Nat.le_of_ble_eq_true rfl) dX7_code_83 ⟨by decide, by decide⟩ (fun H locs hW => ?_)
            refine lv_if_ne (tgt := 99) hx hb dX7_code_86 (by decide) (fun c10 => ?_) (fun c10 => ?_)
            · replace hf := (if_neg c10).symm.trans hf
              refine lv_aload_n hx hb dX7_code_99 rfl (lv_at hl 2 rfl) ?_
              refine gs_get hC hW in_X7 0 0 rfl rfl (by decide) fl_X7_12 rfl dX7_code_100 ?_
              refine gs_get hC hW in_X4 1 3 rfl rfl (by decide) fl_X7_109 rfl dX7_code_103 ?_
              refine lv_iload_n hx hb dX7_code_106 rfl (lv_at hl 3 rfl) ?_
              obtain ⟨v11, h11, hf⟩ := g_bnd hf
              refine gs_iald hC hW 2 h11 rfl dX7_code_107 ?_
              refine lv_bipush (v := 16) hx hb dX7_code_108 (by decide) ?_
              refine lv_icmp_lt (tgt := 123) hx hb dX7_code_110 (by decide) (fun c12 => ?_) (fun c12 => ?_)
              · replace hf := (if_pos c12).symm.trans hf
                refine lv_aload_n hx hb dX7_code_123 rfl (lv_at hl 2 rfl) ?_
                refine lv_iconst (v := 0) hx hb dX7_code_124 (by decide) ?_
                refine gs_put (ws' := w_X7_code cI cZ cJ a_t a_tb a_tb_lengths a_tb_fields a_ta a_tk a_tf a_tg a_ty a_th a_tb_parameterCounts a_tb_entries 0 tb_functionCount tb_entryCount tb_lengths tb_fields) hC hW in_X7 tyX7_ok nmX7 0 7 rfl rfl (by decide) fl_X7_58 rfl (by decide) (by decide) (Nat.le_of_ble_eq_true rfl) rfl dX7_code_125 (fun H locs hW => ?_)
                refine lv_aload_n hx hb dX7_code_128 rfl (lv_at hl 2 rfl) ?_
                refine gs_get hC hW in_X7 0 0 rfl rfl (by decide) fl_X7_12 rfl dX7_code_129 ?_
                refine lv_iload_n hx hb dX7_code_132 rfl (lv_at hl 3 rfl) ?_
                refine lv_iload hx hb dX7_code_133 (lv_at hl 1 rfl) ?_
                refine lv_iload hx hb dX7_code_135 (lv_at hl 0 rfl) ?_
                refine lv_iload_n hx hb dX7_code_137 rfl (lv_at hl 5 rfl) ?_
                obtain ⟨o13, h13, hf⟩ := g_bnd hf
                refine gs_callVi (ws' := w_X7_code cI cZ cJ a_t a_tb a_tb_lengths a_tb_fields a_ta a_tk a_tf a_tg a_ty a_th a_tb_parameterCounts a_tb_entries 0 tb_functionCount tb_entryCount o13.2.1 o13.2.2) hC hW (k_X4_addStatement l tA dC dI cI cZ cJ a_tb a_tb_lengths a_tb_fields a_tb_parameterCounts a_tb_entries x1 (x2 &&& 15) (x2 >>> (4 &&& 31)) x3 tb_functionCount tb_entryCount tb_lengths tb_fields _ h13) yk_X4_addStatement lk_X7_114 iv_X4_addStatement ⟨rfl, rfl⟩ ⟨Nat.le_of_ble_eq_true rfl, Nat.le_of_ble_eq_true rfl⟩ hl.1 1 rfl rfl [1, 2, 3] [0] [0, 1, 2, 3] rfl rfl rfl rfl (by decide) rfl rfl rfl rfl (Nat.le_of_ble_eq_true rfl) dX7_code_138 ⟨by decide, by decide⟩ (fun H locs hW => ?_)
                refine lv_istore (lv' := [(9, .int o13.1), (8, .int (x2 >>> (4 &&& 31))), (7, .int (x2 &&& 15)), (0, .ref a_t), (1, .int x1), (2, .int x2), (3, .int x3), (4, .int x4), (5, .int x5), (6, .int x6)]) hx hb dX7_code_141 hl (by decide) rfl (fun ls hl => ?_)
                refine lv_aload_n hx hb dX7_code_143 rfl (lv_at hl 3 rfl) ?_
                refine gs_get hC hW in_X7 0 0 rfl rfl (by decide) fl_X7_12 rfl dX7_code_144 ?_
                refine lv_iload_n hx hb dX7_code_147 rfl (lv_at hl 4 rfl) ?_
                refine lv_iload hx hb dX7_code_148 (lv_at hl 0 rfl) ?_
                refine lv_iconst (v := 3) hx hb dX7_code_150 (by decide) ?_
                refine lv_iload hx hb dX7_code_151 (lv_at hl 7 rfl) ?_
                obtain ⟨o14, h14, hf⟩ := g_bnd hf
                refine gs_callVv (ws' := w_X7_code cI cZ cJ a_t a_tb a_tb_lengths a_tb_fields a_ta a_tk a_tf a_tg a_ty a_th a_tb_parameterCounts a_tb_entries 0 tb_functionCount tb_entryCount o13.2.1 o14) hC hW (k_X4_putField l tA dC dI cI cZ cJ a_tb a_tb_fields a_tb_parameterCounts a_tb_lengths a_tb_entries x1 o13.1 3 x4 tb_functionCount tb_entryCount o13.2.2 _ h14) yk_X4_putField lk_X7_118 iv_X4_putField ⟨rfl, rfl⟩ ⟨Nat.le_of_ble_eq_true rfl, Nat.le_of_ble_eq_true rfl⟩ hl.1 1 rfl rfl [1, 3] [0, 2] [0, 2, 1, 3] rfl rfl rfl rfl (by decide) rfl rfl rfl rfl (Nat.le_of_ble_eq_true rfl) dX7_code_153 ⟨by decide, by decide⟩ (fun H locs hW => ?_)
                refine lv_aload_n hx hb dX7_code_156 rfl (lv_at hl 3 rfl) ?_
                refine gs_get hC hW in_X7 0 0 rfl rfl (by decide) fl_X7_12 rfl dX7_code_157 ?_
                refine lv_iload_n hx hb dX7_code_160 rfl (lv_at hl 4 rfl) ?_
                refine lv_iload hx hb dX7_code_161 (lv_at hl 0 rfl) ?_
                refine lv_iconst (v := 4) hx hb dX7_code_163 (by decide) ?_
                refine lv_iload hx hb dX7_code_164 (lv_at hl 8 rfl) ?_
                obtain ⟨o15, h15, hf⟩ := g_bnd hf
                refine gs_callVv (ws' := w_X7_code cI cZ cJ a_t a_tb a_tb_lengths a_tb_fields a_ta a_tk a_tf a_tg a_ty a_th a_tb_parameterCounts a_tb_entries 0 tb_functionCount tb_entryCount o13.2.1 o15) hC hW (k_X4_putField l tA dC dI cI cZ cJ a_tb a_tb_fields a_tb_parameterCounts a_tb_lengths a_tb_entries x1 o13.1 4 x5 tb_functionCount tb_entryCount o14 _ h15) yk_X4_putField lk_X7_118 iv_X4_putField ⟨rfl, rfl⟩ ⟨Nat.le_of_ble_eq_true rfl, Nat.le_of_ble_eq_true rfl⟩ hl.1 1 rfl rfl [1, 3] [0, 2] [0, 2, 1, 3] rfl rfl rfl rfl (by decide) rfl rfl rfl rfl (Nat.le_of_ble_eq_true rfl) dX7_code_166 ⟨by decide, by decide⟩ (fun H locs hW => ?_)
                refine lv_aload_n hx hb dX7_code_169 rfl (lv_at hl 3 rfl) ?_
                refine gs_get hC hW in_X7 0 0 rfl rfl (by decide) fl_X7_12 rfl dX7_code_170 ?_
                refine lv_iload_n hx hb dX7_code_173 rfl (lv_at hl 4 rfl) ?_
                refine lv_iload hx hb dX7_code_174 (lv_at hl 0 rfl) ?_
                refine lv_iconst (v := 5) hx hb dX7_code_176 (by decide) ?_
                refine lv_iload hx hb dX7_code_177 (lv_at hl 9 rfl) ?_
                obtain ⟨o16, h16, hf⟩ := g_bnd hf
                refine gs_callVv (ws' := w_X7_code cI cZ cJ a_t a_tb a_tb_lengths a_tb_fields a_ta a_tk a_tf a_tg a_ty a_th a_tb_parameterCounts a_tb_entries 0 tb_functionCount tb_entryCount o13.2.1 o16) hC hW (k_X4_putField l tA dC dI cI cZ cJ a_tb a_tb_fields a_tb_parameterCounts a_tb_lengths a_tb_entries x1 o13.1 5 x6 tb_functionCount tb_entryCount o15 _ h16) yk_X4_putField lk_X7_118 iv_X4_putField ⟨rfl, rfl⟩ ⟨Nat.le_of_ble_eq_true rfl, Nat.le_of_ble_eq_true rfl⟩ hl.1 1 rfl rfl [1, 3] [0, 2] [0, 2, 1, 3] rfl rfl rfl rfl (by decide) rfl rfl rfl rfl (Nat.le_of_ble_eq_true rfl) dX7_code_179 ⟨by decide, by decide⟩ (fun H locs hW => ?_)
                refine lv_iload hx hb dX7_code_182 (lv_at hl 0 rfl) ?_
                obtain rfl := Option.some.inj hf
                exact gs_rxi (o13.1, 0, o13.2.1, o16) hC hW rfl rfl rfl (by decide) (by decide) dX7_code_184
              · replace hf := (if_neg c12).symm.trans hf
                obtain rfl := Option.some.inj hf
                exact gs_throw (text := "the function has 16 statements") hC hW hH hlt hxt gE_79 (by decide) rfl rfl hl.1 dX7_code_113 dX7_code_116 dX7_code_117 dX7_code_119 dX7_code_122 (by decide) (by decide) (by decide) (by decide)
            · replace hf := (if_pos c10).symm.trans hf
              obtain rfl := Option.some.inj hf
              exact gs_throw (text := "an operand or X does not fit the operation") hC hW hH hlt hxt gE_62 (by decide) rfl rfl hl.1 dX7_code_89 dX7_code_92 dX7_code_93 dX7_code_95 dX7_code_98 (by decide) (by decide) (by decide) (by decide)
        · replace hf := (if_neg c5).symm.trans hf
          obtain rfl := Option.some.inj hf
          exact gs_throw (text := "no such operation or register") hC hW hH hlt hxt gE_62 (by decide) rfl rfl hl.1 dX7_code_51 dX7_code_54 dX7_code_55 dX7_code_57 dX7_code_60 (by decide) (by decide) (by decide) (by decide)
  · replace hf := (if_pos c2).symm.trans hf
    obtain rfl := Option.some.inj hf
    exact gs_throw (text := "no such function") hC hW hH hlt hxt gE_88 (by decide) rfl rfl hl.1 dX7_code_11 dX7_code_14 dX7_code_15 dX7_code_17 dX7_code_20 (by decide) (by decide) (by decide) (by decide)

abbrev w_X7_table (cI cZ cJ : ClassId) (a_t : Nat) (a_tb : Nat) (a_tb_entries : Nat) (a_ta : Nat) (a_tk : Nat) (a_tf : Nat) (a_tg : Nat) (a_ty : Nat) (a_th : Nat) (a_tb_parameterCounts : Nat) (a_tb_lengths : Nat) (a_tb_fields : Nat) (t_analysed : Int32) (tb_functionCount : Int32) (tb_entryCount : Int32) (tb_entries : Nat → Int32) : va_W := [(a_t, .inr (7, [.ref a_tb, .ref a_ta, .ref a_tk, .ref a_tf, .ref a_tg, .ref a_ty, .ref a_th, .int t_analysed])), (a_tb, .inr (4, [.int tb_functionCount, .int tb_entryCount, .ref a_tb_parameterCounts, .ref a_tb_lengths, .ref a_tb_fields, .ref a_tb_entries])), (a_tb_entries, .inl (cI, 4, .inl tb_entries))]
abbrev r_X7_table : Room := { frames := 6, cells := 1, slots := 6, locals := 82 }
def f_X7_table (x1 : Int32) (t_analysed : Int32) (tb_functionCount : Int32) (tb_entryCount : Int32) (tb_entries : Nat → Int32) : Option ((Int32 × Int32 × Int32 × (Nat → Int32)) ⊕ String) := (f_X4_hasFunction x1 tb_functionCount).bind (fun o1 => if o1 = 0 then some (.inr "java/lang/IndexOutOfBoundsException") else if tb_entryCount < 4 then (f_X4_addEntry x1 tb_entryCount tb_entries).bind (fun o4 => some (.inl (o4.1, 0, o4.2.1, o4.2.2))) else some (.inr "java/lang/IllegalStateException"))
set_option maxHeartbeats 4000000 in
set_option maxRecDepth 100000 in
theorem k_X7_table (l : Launch) (tA : Nat) (dC : Nat → ClassId) (dI : Nat → Nat → Nat) (cI cZ cJ : ClassId) (hlt : l.stackTraces = false) (a_t : Nat) (a_tb : Nat) (a_tb_entries : Nat) (a_ta : Nat) (a_tk : Nat) (a_tf : Nat) (a_tg : Nat) (a_ty : Nat) (a_th : Nat) (a_tb_parameterCounts : Nat) (a_tb_lengths : Nat) (a_tb_fields : Nat) (x1 : Int32) (t_analysed : Int32) (tb_functionCount : Int32) (tb_entryCount : Int32) (tb_entries : Nat → Int32) (out : (Int32 × Int32 × Int32 × (Nat → Int32)) ⊕ String) (hf : f_X7_table x1 t_analysed tb_functionCount tb_entryCount tb_entries = some out) : g_MX l yX7_table cX7_table 2 (some .int) r_X7_table tA dC dI cI cZ cJ [.ref a_t, .int x1] (w_X7_table cI cZ cJ a_t a_tb a_tb_entries a_ta a_tk a_tf a_tg a_ty a_th a_tb_parameterCounts a_tb_lengths a_tb_fields t_analysed tb_functionCount tb_entryCount tb_entries) (fun u => w_X7_table cI cZ cJ a_t a_tb a_tb_entries a_ta a_tk a_tf a_tg a_ty a_th a_tb_parameterCounts a_tb_lengths a_tb_fields u.2.1 tb_functionCount u.2.2.1 u.2.2.2) (fun u => u.1) out := by
  unfold f_X7_table at hf
  refine ge_x (by decide) (Nat.le_of_ble_eq_true rfl) (fun p e s m below meth c A H locs ls hC hxt hH hW hl => ?_)
  have hC : g_C p s m meth c _ cX7_table 2 (some .int) RX7 := hC
  have hx := hC.1
  have hb := hC.2.1
  have hown := hC.2.2.2.2.1
  have hts := hC.2.2.2.2.2.1
  have hl : lv_has ls 2 [(0, .ref a_t), (1, .int x1)] := hl
  refine lv_aload_n hx hb dX7_table_0 rfl (lv_at hl 0 rfl) ?_
  refine gs_get hC hW in_X7 0 0 rfl rfl (by decide) fl_X7_12 rfl dX7_table_1 ?_
  refine lv_iload_n hx hb dX7_table_4 rfl (lv_at hl 1 rfl) ?_
  obtain ⟨o1, h1, hf⟩ := g_bnd hf
  refine gs_callVi (ws' := w_X7_table cI cZ cJ a_t a_tb a_tb_entries a_ta a_tk a_tf a_tg a_ty a_th a_tb_parameterCounts a_tb_lengths a_tb_fields t_analysed tb_functionCount tb_entryCount tb_entries) hC hW (k_X4_hasFunction l tA dC dI cI cZ cJ a_tb a_tb_parameterCounts a_tb_lengths a_tb_fields a_tb_entries x1 tb_functionCount tb_entryCount _ h1) yk_X4_hasFunction lk_X7_69 iv_X4_hasFunction ⟨rfl, rfl⟩ ⟨Nat.le_of_ble_eq_true rfl, Nat.le_of_ble_eq_true rfl⟩ hl.1 1 rfl rfl [1] [0, 2] [0, 2, 1] rfl rfl rfl rfl (by decide) rfl rfl rfl rfl (Nat.le_of_ble_eq_true rfl) dX7_table_5 ⟨by decide, by decide⟩ (fun H locs hW => ?_)
  refine lv_if_ne (tgt := 21) hx hb dX7_table_8 (by decide) (fun c2 => ?_) (fun c2 => ?_)
  · replace hf := (if_neg c2).symm.trans hf
    refine lv_aload_n hx hb dX7_table_21 rfl (lv_at hl 0 rfl) ?_
    refine gs_get hC hW in_X7 0 0 rfl rfl (by decide) fl_X7_12 rfl dX7_table_22 ?_
    refine gs_get hC hW in_X4 1 1 rfl rfl (by decide) fl_X7_122 rfl dX7_table_25 ?_
    refine lv_iconst (v := 4) hx hb dX7_table_28 (by decide) ?_
    refine lv_icmp_lt (tgt := 42) hx hb dX7_table_29 (by decide) (fun c3 => ?_) (fun c3 => ?_)
    · replace hf := (if_pos c3).symm.trans hf
      refine lv_aload_n hx hb dX7_table_42 rfl (lv_at hl 0 rfl) ?_
      refine lv_iconst (v := 0) hx hb dX7_table_43 (by decide) ?_
      refine gs_put (ws' := w_X7_table cI cZ cJ a_t a_tb a_tb_entries a_ta a_tk a_tf a_tg a_ty a_th a_tb_parameterCounts a_tb_lengths a_tb_fields 0 tb_functionCount tb_entryCount tb_entries) hC hW in_X7 tyX7_ok nmX7 0 7 rfl rfl (by decide) fl_X7_58 rfl (by decide) (by decide) (Nat.le_of_ble_eq_true rfl) rfl dX7_table_44 (fun H locs hW => ?_)
      refine lv_aload_n hx hb dX7_table_47 rfl (lv_at hl 0 rfl) ?_
      refine gs_get hC hW in_X7 0 0 rfl rfl (by decide) fl_X7_12 rfl dX7_table_48 ?_
      refine lv_iload_n hx hb dX7_table_51 rfl (lv_at hl 1 rfl) ?_
      obtain ⟨o4, h4, hf⟩ := g_bnd hf
      refine gs_callVi (ws' := w_X7_table cI cZ cJ a_t a_tb a_tb_entries a_ta a_tk a_tf a_tg a_ty a_th a_tb_parameterCounts a_tb_lengths a_tb_fields 0 tb_functionCount o4.2.1 o4.2.2) hC hW (k_X4_addEntry l tA dC dI cI cZ cJ a_tb a_tb_entries a_tb_parameterCounts a_tb_lengths a_tb_fields x1 tb_functionCount tb_entryCount tb_entries _ h4) yk_X4_addEntry lk_X7_127 iv_X4_addEntry ⟨rfl, rfl⟩ ⟨Nat.le_of_ble_eq_true rfl, Nat.le_of_ble_eq_true rfl⟩ hl.1 1 rfl rfl [1, 2] [0] [0, 1, 2] rfl rfl rfl rfl (by decide) rfl rfl rfl rfl (Nat.le_of_ble_eq_true rfl) dX7_table_52 ⟨by decide, by decide⟩ (fun H locs hW => ?_)
      obtain rfl := Option.some.inj hf
      exact gs_rxi (o4.1, 0, o4.2.1, o4.2.2) hC hW rfl rfl rfl (by decide) (by decide) dX7_table_55
    · replace hf := (if_neg c3).symm.trans hf
      obtain rfl := Option.some.inj hf
      exact gs_throw (text := "the table has 4 functions") hC hW hH hlt hxt gE_79 (by decide) rfl rfl hl.1 dX7_table_32 dX7_table_35 dX7_table_36 dX7_table_38 dX7_table_41 (by decide) (by decide) (by decide) (by decide)
  · replace hf := (if_pos c2).symm.trans hf
    obtain rfl := Option.some.inj hf
    exact gs_throw (text := "no such function") hC hW hH hlt hxt gE_88 (by decide) rfl rfl hl.1 dX7_table_11 dX7_table_14 dX7_table_15 dX7_table_17 dX7_table_20 (by decide) (by decide) (by decide) (by decide)

abbrev w_X7_analyse (cI cZ cJ : ClassId) (a_t : Nat) (a_tb : Nat) (a_tb_parameterCounts : Nat) (a_tb_lengths : Nat) (a_tb_fields : Nat) (a_tb_entries : Nat) (a_ta : Nat) (a_ta_parameterCounts : Nat) (a_ta_lengths : Nat) (a_ta_fields : Nat) (a_ta_entries : Nat) (a_tk : Nat) (a_tk_comeTo : Nat) (a_tk_any : Nat) (a_tk_numbers : Nat) (a_tf : Nat) (a_tfr : Nat) (a_tfr_any : Nat) (a_tfr_numbers : Nat) (a_tf_isWaiting : Nat) (a_tf_waiting : Nat) (a_tg : Nat) (a_ty : Nat) (a_th : Nat) (t_analysed : Int32) (tb_functionCount : Int32) (tb_entryCount : Int32) (tb_parameterCounts : Nat → Int32) (tb_lengths : Nat → Int32) (tb_fields : Nat → Int32) (tb_entries : Nat → Int32) (ta_functionCount : Int32) (ta_entryCount : Int32) (ta_parameterCounts : Nat → Int32) (ta_lengths : Nat → Int32) (ta_fields : Nat → Int32) (ta_entries : Nat → Int32) (tk_comeTo : Nat → Int32) (tk_any : Nat → Int32) (tk_numbers : Nat → Int32) (tf_waitingCount : Int32) (tfr_any : Nat → Int32) (tfr_numbers : Nat → Int32) (tf_isWaiting : Nat → Int32) (tf_waiting : Nat → Int32) : va_W := [(a_t, .inr (7, [.ref a_tb, .ref a_ta, .ref a_tk, .ref a_tf, .ref a_tg, .ref a_ty, .ref a_th, .int t_analysed])), (a_tb, .inr (4, [.int tb_functionCount, .int tb_entryCount, .ref a_tb_parameterCounts, .ref a_tb_lengths, .ref a_tb_fields, .ref a_tb_entries])), (a_tb_parameterCounts, .inl (cI, 12, .inl tb_parameterCounts)), (a_tb_lengths, .inl (cI, 12, .inl tb_lengths)), (a_tb_fields, .inl (cI, 1152, .inl tb_fields)), (a_tb_entries, .inl (cI, 4, .inl tb_entries)), (a_ta, .inr (4, [.int ta_functionCount, .int ta_entryCount, .ref a_ta_parameterCounts, .ref a_ta_lengths, .ref a_ta_fields, .ref a_ta_entries])), (a_ta_parameterCounts, .inl (cI, 12, .inl ta_parameterCounts)), (a_ta_lengths, .inl (cI, 12, .inl ta_lengths)), (a_ta_fields, .inl (cI, 1152, .inl ta_fields)), (a_ta_entries, .inl (cI, 4, .inl ta_entries)), (a_tk, .inr (1, [.ref a_tk_comeTo, .ref a_tk_any, .ref a_tk_numbers])), (a_tk_comeTo, .inl (cZ, 204, .inl tk_comeTo)), (a_tk_any, .inl (cZ, 1224, .inl tk_any)), (a_tk_numbers, .inl (cI, 1224, .inl tk_numbers)), (a_tf, .inr (0, [.ref a_ta, .ref a_tk, .ref a_tfr, .ref a_tf_isWaiting, .ref a_tf_waiting, .int tf_waitingCount])), (a_tfr, .inr (5, [.ref a_tfr_any, .ref a_tfr_numbers])), (a_tfr_any, .inl (cZ, 6, .inl tfr_any)), (a_tfr_numbers, .inl (cI, 6, .inl tfr_numbers)), (a_tf_isWaiting, .inl (cZ, 204, .inl tf_isWaiting)), (a_tf_waiting, .inl (cI, 204, .inl tf_waiting)), (a_tg, .inr (3, [.ref a_ta, .ref a_tk]))]
abbrev r_X7_analyse : Room := { frames := 6, cells := 1, slots := 6, locals := 145 }
def f_X7_analyse_61 (N : Nat) (x1 : Int32) (tb_functionCount : Int32) (tb_entryCount : Int32) (tb_parameterCounts : Nat → Int32) (tb_lengths : Nat → Int32) (tb_fields : Nat → Int32) (tb_entries : Nat → Int32) : Nat → Int32 → Int32 → Int32 → Int32 → (Nat → Int32) → (Nat → Int32) → (Nat → Int32) → (Nat → Int32) → (Nat → Int32) → (Nat → Int32) → (Nat → Int32) → Int32 → (Nat → Int32) → (Nat → Int32) → (Nat → Int32) → (Nat → Int32) → Option ((Int32 × Int32 × Int32 × Int32 × (Nat → Int32) × (Nat → Int32) × (Nat → Int32) × (Nat → Int32) × (Nat → Int32) × (Nat → Int32) × (Nat → Int32) × Int32 × (Nat → Int32) × (Nat → Int32) × (Nat → Int32) × (Nat → Int32)) ⊕ String)
  | 0, _, _, _, _, _, _, _, _, _, _, _, _, _, _, _, _ => none
  | n + 1, x2, t_analysed, ta_functionCount, ta_entryCount, ta_parameterCounts, ta_lengths, ta_fields, ta_entries, tk_comeTo, tk_any, tk_numbers, tf_waitingCount, tfr_any, tfr_numbers, tf_isWaiting, tf_waiting => if x1 ≤ x2 then (f_X3_makeNewProgram N ta_functionCount ta_entryCount ta_lengths ta_fields ta_entries tk_comeTo tk_any tk_numbers).bind (fun o2 => (f_X1_countReached N ta_functionCount tk_comeTo).bind (fun o3 => some (.inl (o3, 1, ta_functionCount, ta_entryCount, ta_parameterCounts, o2.1, o2.2, ta_entries, tk_comeTo, tk_any, tk_numbers, tf_waitingCount, tfr_any, tfr_numbers, tf_isWaiting, tf_waiting)))) else (f_X3_copyForSpecialCall N ta_functionCount ta_parameterCounts ta_lengths ta_fields tk_comeTo tk_any tk_numbers).bind (fun o4 => if o4.1 = 0 then (f_X3_makeNewProgram N o4.2.1 ta_entryCount o4.2.2.2.1 o4.2.2.2.2 ta_entries tk_comeTo tk_any tk_numbers).bind (fun o6 => (f_X1_countReached N o4.2.1 tk_comeTo).bind (fun o7 => some (.inl (o7, 1, o4.2.1, ta_entryCount, o4.2.2.1, o6.1, o6.2, ta_entries, tk_comeTo, tk_any, tk_numbers, tf_waitingCount, tfr_any, tfr_numbers, tf_isWaiting, tf_waiting)))) else (f_X0_find N tf_waitingCount ta_entryCount o4.2.2.1 o4.2.2.2.1 o4.2.2.2.2 ta_entries tk_comeTo tk_any tk_numbers tfr_any tfr_numbers tf_isWaiting tf_waiting).bind (fun o8 => f_X7_analyse_61 N x1 tb_functionCount tb_entryCount tb_parameterCounts tb_lengths tb_fields tb_entries n (x2 + 1) t_analysed o4.2.1 ta_entryCount o4.2.2.1 o4.2.2.2.1 o4.2.2.2.2 ta_entries o8.2.1 o8.2.2.1 o8.2.2.2.1 o8.1 o8.2.2.2.2.1 o8.2.2.2.2.2.1 o8.2.2.2.2.2.2.1 o8.2.2.2.2.2.2.2))
set_option maxHeartbeats 4000000 in
set_option maxRecDepth 100000 in
theorem b_X7_analyse_61 {p : Program} {l : Launch} {e : Env} {s : State} {m : MethodId} {args : Array Value} {below : List Frame} {meth : Method} {c : Code} {tA : Nat} {dC : Nat → ClassId} {dI : Nat → Nat → Nat} {cI cZ cJ : ClassId} {A : Nat → Prop} {a_t : Nat} {a_tb : Nat} {a_tb_parameterCounts : Nat} {a_tb_lengths : Nat} {a_tb_fields : Nat} {a_tb_entries : Nat} {a_ta : Nat} {a_ta_parameterCounts : Nat} {a_ta_lengths : Nat} {a_ta_fields : Nat} {a_ta_entries : Nat} {a_tk : Nat} {a_tk_comeTo : Nat} {a_tk_any : Nat} {a_tk_numbers : Nat} {a_tf : Nat} {a_tfr : Nat} {a_tfr_any : Nat} {a_tfr_numbers : Nat} {a_tf_isWaiting : Nat} {a_tf_waiting : Nat} {a_tg : Nat} {a_ty : Nat} {a_th : Nat} {x1 : Int32} {tb_functionCount : Int32} {tb_entryCount : Int32} {tb_parameterCounts : Nat → Int32} {tb_lengths : Nat → Int32} {tb_fields : Nat → Int32} {tb_entries : Nat → Int32} {N : Nat} (hC : g_C p s m meth c args cX7_analyse 3 (some .int) RX7) {ws0 : va_W} (hlt : l.stackTraces = false) (hxt : ∀ x ∈ c.exceptionTable.toList, False) (hH : g_H A s s.heap) :
    ∀ (n : Nat) (x2 : Int32) (t_analysed : Int32) (ta_functionCount : Int32) (ta_entryCount : Int32) (ta_parameterCounts : Nat → Int32) (ta_lengths : Nat → Int32) (ta_fields : Nat → Int32) (ta_entries : Nat → Int32) (tk_comeTo : Nat → Int32) (tk_any : Nat → Int32) (tk_numbers : Nat → Int32) (tf_waitingCount : Int32) (tfr_any : Nat → Int32) (tfr_numbers : Nat → Int32) (tf_isWaiting : Nat → Int32) (tf_waiting : Nat → Int32) (out : (Int32 × Int32 × Int32 × Int32 × (Nat → Int32) × (Nat → Int32) × (Nat → Int32) × (Nat → Int32) × (Nat → Int32) × (Nat → Int32) × (Nat → Int32) × Int32 × (Nat → Int32) × (Nat → Int32) × (Nat → Int32) × (Nat → Int32)) ⊕ String), f_X7_analyse_61 N x1 tb_functionCount tb_entryCount tb_parameterCounts tb_lengths tb_fields tb_entries n x2 t_analysed ta_functionCount ta_entryCount ta_parameterCounts ta_lengths ta_fields ta_entries tk_comeTo tk_any tk_numbers tf_waitingCount tfr_any tfr_numbers tf_isWaiting tf_waiting = some out → ∀ (H : Heap) (locs : List Loc) (ls : Array Slot), g_W tA dC dI cI cZ cJ A s H locs (w_X7_analyse cI cZ cJ a_t a_tb a_tb_parameterCounts a_tb_lengths a_tb_fields a_tb_entries a_ta a_ta_parameterCounts a_ta_lengths a_ta_fields a_ta_entries a_tk a_tk_comeTo a_tk_any a_tk_numbers a_tf a_tfr a_tfr_any a_tfr_numbers a_tf_isWaiting a_tf_waiting a_tg a_ty a_th t_analysed tb_functionCount tb_entryCount tb_parameterCounts tb_lengths tb_fields tb_entries ta_functionCount ta_entryCount ta_parameterCounts ta_lengths ta_fields ta_entries tk_comeTo tk_any tk_numbers tf_waitingCount tfr_any tfr_numbers tf_isWaiting tf_waiting) → lv_has ls 3 [(0, .ref a_t), (1, .int x1), (2, .int x2)] → W p l e r_X7_analyse s m args below meth c H locs 0 0 (vx_MQ below (g_Qx dC dI cI cZ cJ A (fun u => w_X7_analyse cI cZ cJ a_t a_tb a_tb_parameterCounts a_tb_lengths a_tb_fields a_tb_entries a_ta a_ta_parameterCounts a_ta_lengths a_ta_fields a_ta_entries a_tk a_tk_comeTo a_tk_any a_tk_numbers a_tf a_tfr a_tfr_any a_tfr_numbers a_tf_isWaiting a_tf_waiting a_tg a_ty a_th u.2.1 tb_functionCount tb_entryCount tb_parameterCounts tb_lengths tb_fields tb_entries u.2.2.1 u.2.2.2.1 u.2.2.2.2.1 u.2.2.2.2.2.1 u.2.2.2.2.2.2.1 u.2.2.2.2.2.2.2.1 u.2.2.2.2.2.2.2.2.1 u.2.2.2.2.2.2.2.2.2.1 u.2.2.2.2.2.2.2.2.2.2.1 u.2.2.2.2.2.2.2.2.2.2.2.1 u.2.2.2.2.2.2.2.2.2.2.2.2.1 u.2.2.2.2.2.2.2.2.2.2.2.2.2.1 u.2.2.2.2.2.2.2.2.2.2.2.2.2.2.1 u.2.2.2.2.2.2.2.2.2.2.2.2.2.2.2) (fun u => u.1) out) (g_Xx dC dI cI cZ cJ A ws0 out) args s 1 6 A) (F0 m 61 ls []) := by
  have hx := hC.1
  have hb := hC.2.1
  have hown := hC.2.2.2.2.1
  have hts := hC.2.2.2.2.2.1
  intro n
  induction n with
  | zero =>
    intro x2 t_analysed ta_functionCount ta_entryCount ta_parameterCounts ta_lengths ta_fields ta_entries tk_comeTo tk_any tk_numbers tf_waitingCount tfr_any tfr_numbers tf_isWaiting tf_waiting out hf
    exact g_no hf
  | succ n ih =>
    intro x2 t_analysed ta_functionCount ta_entryCount ta_parameterCounts ta_lengths ta_fields ta_entries tk_comeTo tk_any tk_numbers tf_waitingCount tfr_any tfr_numbers tf_isWaiting tf_waiting out hf H locs ls hW hl
    refine lv_iload_n hx hb dX7_analyse_61 rfl (lv_at hl 2 rfl) ?_
    refine lv_iload_n hx hb dX7_analyse_62 rfl (lv_at hl 1 rfl) ?_
    refine lv_icmp_ge (tgt := 89) hx hb dX7_analyse_63 (by decide) (fun c1 => ?_) (fun c1 => ?_)
    · replace hf := (if_pos c1).symm.trans hf
      refine lv_aload_n hx hb dX7_analyse_89 rfl (lv_at hl 0 rfl) ?_
      refine gs_get hC hW in_X7 0 4 rfl rfl (by decide) fl_X7_38 rfl dX7_analyse_90 ?_
      obtain ⟨o2, h2, hf⟩ := g_bnd hf
      refine gs_callVv (ws' := w_X7_analyse cI cZ cJ a_t a_tb a_tb_parameterCounts a_tb_lengths a_tb_fields a_tb_entries a_ta a_ta_parameterCounts a_ta_lengths a_ta_fields a_ta_entries a_tk a_tk_comeTo a_tk_any a_tk_numbers a_tf a_tfr a_tfr_any a_tfr_numbers a_tf_isWaiting a_tf_waiting a_tg a_ty a_th t_analysed tb_functionCount tb_entryCount tb_parameterCounts tb_lengths tb_fields tb_entries ta_functionCount ta_entryCount ta_parameterCounts o2.1 o2.2 ta_entries tk_comeTo tk_any tk_numbers tf_waitingCount tfr_any tfr_numbers tf_isWaiting tf_waiting) hC hW (k_X3_makeNewProgram l tA dC dI cI cZ cJ a_tg a_ta a_ta_lengths a_ta_fields a_ta_entries a_tk a_tk_comeTo a_tk_any a_tk_numbers a_ta_parameterCounts N ta_functionCount ta_entryCount ta_lengths ta_fields ta_entries tk_comeTo tk_any tk_numbers _ h2) yk_X3_makeNewProgram lk_X7_151 iv_X3_makeNewProgram ⟨rfl, rfl⟩ ⟨Nat.le_of_ble_eq_true rfl, Nat.le_of_ble_eq_true rfl⟩ hl.1 21 rfl rfl [21, 6, 8, 9, 10, 11, 12, 13, 14] [0, 1, 2, 3, 4, 5, 7, 15, 16, 17, 18, 19, 20] [0, 1, 2, 3, 4, 5, 14, 6, 15, 16, 17, 18, 19, 20, 21, 7, 8, 9, 10, 11, 12, 13] rfl rfl rfl rfl (by decide) rfl rfl rfl rfl (Nat.le_of_ble_eq_true rfl) dX7_analyse_93 ⟨by decide, by decide⟩ (fun H locs hW => ?_)
      refine lv_aload_n hx hb dX7_analyse_96 rfl (lv_at hl 0 rfl) ?_
      refine lv_iconst (v := 1) hx hb dX7_analyse_97 (by decide) ?_
      refine gs_put (ws' := w_X7_analyse cI cZ cJ a_t a_tb a_tb_parameterCounts a_tb_lengths a_tb_fields a_tb_entries a_ta a_ta_parameterCounts a_ta_lengths a_ta_fields a_ta_entries a_tk a_tk_comeTo a_tk_any a_tk_numbers a_tf a_tfr a_tfr_any a_tfr_numbers a_tf_isWaiting a_tf_waiting a_tg a_ty a_th 1 tb_functionCount tb_entryCount tb_parameterCounts tb_lengths tb_fields tb_entries ta_functionCount ta_entryCount ta_parameterCounts o2.1 o2.2 ta_entries tk_comeTo tk_any tk_numbers tf_waitingCount tfr_any tfr_numbers tf_isWaiting tf_waiting) hC hW in_X7 tyX7_ok nmX7 0 7 rfl rfl (by decide) fl_X7_58 rfl (by decide) (by decide) (Nat.le_of_ble_eq_true rfl) rfl dX7_analyse_98 (fun H locs hW => ?_)
      refine lv_aload_n hx hb dX7_analyse_101 rfl (lv_at hl 0 rfl) ?_
      refine gs_get hC hW in_X7 0 2 rfl rfl (by decide) fl_X7_22 rfl dX7_analyse_102 ?_
      refine lv_aload_n hx hb dX7_analyse_105 rfl (lv_at hl 0 rfl) ?_
      refine gs_get hC hW in_X7 0 1 rfl rfl (by decide) fl_X7_16 rfl dX7_analyse_106 ?_
      refine gs_get hC hW in_X4 6 0 rfl rfl (by decide) fl_X7_75 rfl dX7_analyse_109 ?_
      obtain ⟨o3, h3, hf⟩ := g_bnd hf
      refine gs_callVi (ws' := w_X7_analyse cI cZ cJ a_t a_tb a_tb_parameterCounts a_tb_lengths a_tb_fields a_tb_entries a_ta a_ta_parameterCounts a_ta_lengths a_ta_fields a_ta_entries a_tk a_tk_comeTo a_tk_any a_tk_numbers a_tf a_tfr a_tfr_any a_tfr_numbers a_tf_isWaiting a_tf_waiting a_tg a_ty a_th 1 tb_functionCount tb_entryCount tb_parameterCounts tb_lengths tb_fields tb_entries ta_functionCount ta_entryCount ta_parameterCounts o2.1 o2.2 ta_entries tk_comeTo tk_any tk_numbers tf_waitingCount tfr_any tfr_numbers tf_isWaiting tf_waiting) hC hW (k_X1_countReached l tA dC dI cI cZ cJ a_tk a_tk_comeTo a_tk_any a_tk_numbers N ta_functionCount tk_comeTo _ h3) yk_X1_countReached lk_X7_154 iv_X1_countReached ⟨rfl, rfl⟩ ⟨Nat.le_of_ble_eq_true rfl, Nat.le_of_ble_eq_true rfl⟩ hl.1 11 rfl rfl [11, 12] [0, 1, 2, 3, 4, 5, 6, 7, 8, 9, 10, 13, 14, 15, 16, 17, 18, 19, 20, 21] [0, 1, 2, 3, 4, 5, 6, 7, 8, 9, 10, 20, 21, 11, 12, 13, 14, 15, 16, 17, 18, 19] rfl rfl rfl rfl (by decide) rfl rfl rfl rfl (Nat.le_of_ble_eq_true rfl) dX7_analyse_112 ⟨by decide, by decide⟩ (fun H locs hW => ?_)
      obtain rfl := Option.some.inj hf
      exact gs_rxi (o3, 1, ta_functionCount, ta_entryCount, ta_parameterCounts, o2.1, o2.2, ta_entries, tk_comeTo, tk_any, tk_numbers, tf_waitingCount, tfr_any, tfr_numbers, tf_isWaiting, tf_waiting) hC hW rfl rfl rfl (by decide) (by decide) dX7_analyse_115
    · replace hf := (if_neg c1).symm.trans hf
      refine lv_aload_n hx hb dX7_analyse_66 rfl (lv_at hl 0 rfl) ?_
      refine gs_get hC hW in_X7 0 4 rfl rfl (by decide) fl_X7_38 rfl dX7_analyse_67 ?_
      obtain ⟨o4, h4, hf⟩ := g_bnd hf
      refine gs_callVi (ws' := w_X7_analyse cI cZ cJ a_t a_tb a_tb_parameterCounts a_tb_lengths a_tb_fields a_tb_entries a_ta a_ta_parameterCounts a_ta_lengths a_ta_fields a_ta_entries a_tk a_tk_comeTo a_tk_any a_tk_numbers a_tf a_tfr a_tfr_any a_tfr_numbers a_tf_isWaiting a_tf_waiting a_tg a_ty a_th t_analysed tb_functionCount tb_entryCount tb_parameterCounts tb_lengths tb_fields tb_entries o4.2.1 ta_entryCount o4.2.2.1 o4.2.2.2.1 o4.2.2.2.2 ta_entries tk_comeTo tk_any tk_numbers tf_waitingCount tfr_any tfr_numbers tf_isWaiting tf_waiting) hC hW (k_X3_copyForSpecialCall l tA dC dI cI cZ cJ a_tg a_ta a_ta_parameterCounts a_ta_lengths a_ta_fields a_tk a_tk_comeTo a_tk_any a_tk_numbers a_ta_entries N ta_functionCount ta_entryCount ta_parameterCounts ta_lengths ta_fields tk_comeTo tk_any tk_numbers _ h4) yk_X3_copyForSpecialCall lk_X7_147 iv_X3_copyForSpecialCall ⟨rfl, rfl⟩ ⟨Nat.le_of_ble_eq_true rfl, Nat.le_of_ble_eq_true rfl⟩ hl.1 21 rfl rfl [21, 6, 7, 8, 9, 11, 12, 13, 14] [0, 1, 2, 3, 4, 5, 10, 15, 16, 17, 18, 19, 20] [0, 1, 2, 3, 4, 5, 14, 15, 16, 17, 6, 18, 19, 20, 21, 7, 8, 9, 10, 11, 12, 13] rfl rfl rfl rfl (by decide) rfl rfl rfl rfl (Nat.le_of_ble_eq_true rfl) dX7_analyse_70 ⟨by decide, by decide⟩ (fun H locs hW => ?_)
      refine lv_if_eq (tgt := 89) hx hb dX7_analyse_73 (by decide) (fun c5 => ?_) (fun c5 => ?_)
      · replace hf := (if_pos c5).symm.trans hf
        refine lv_aload_n hx hb dX7_analyse_89 rfl (lv_at hl 0 rfl) ?_
        refine gs_get hC hW in_X7 0 4 rfl rfl (by decide) fl_X7_38 rfl dX7_analyse_90 ?_
        obtain ⟨o6, h6, hf⟩ := g_bnd hf
        refine gs_callVv (ws' := w_X7_analyse cI cZ cJ a_t a_tb a_tb_parameterCounts a_tb_lengths a_tb_fields a_tb_entries a_ta a_ta_parameterCounts a_ta_lengths a_ta_fields a_ta_entries a_tk a_tk_comeTo a_tk_any a_tk_numbers a_tf a_tfr a_tfr_any a_tfr_numbers a_tf_isWaiting a_tf_waiting a_tg a_ty a_th t_analysed tb_functionCount tb_entryCount tb_parameterCounts tb_lengths tb_fields tb_entries o4.2.1 ta_entryCount o4.2.2.1 o6.1 o6.2 ta_entries tk_comeTo tk_any tk_numbers tf_waitingCount tfr_any tfr_numbers tf_isWaiting tf_waiting) hC hW (k_X3_makeNewProgram l tA dC dI cI cZ cJ a_tg a_ta a_ta_lengths a_ta_fields a_ta_entries a_tk a_tk_comeTo a_tk_any a_tk_numbers a_ta_parameterCounts N o4.2.1 ta_entryCount o4.2.2.2.1 o4.2.2.2.2 ta_entries tk_comeTo tk_any tk_numbers _ h6) yk_X3_makeNewProgram lk_X7_151 iv_X3_makeNewProgram ⟨rfl, rfl⟩ ⟨Nat.le_of_ble_eq_true rfl, Nat.le_of_ble_eq_true rfl⟩ hl.1 21 rfl rfl [21, 6, 8, 9, 10, 11, 12, 13, 14] [0, 1, 2, 3, 4, 5, 7, 15, 16, 17, 18, 19, 20] [0, 1, 2, 3, 4, 5, 14, 6, 15, 16, 17, 18, 19, 20, 21, 7, 8, 9, 10, 11, 12, 13] rfl rfl rfl rfl (by decide) rfl rfl rfl rfl (Nat.le_of_ble_eq_true rfl) dX7_analyse_93 ⟨by decide, by decide⟩ (fun H locs hW => ?_)
        refine lv_aload_n hx hb dX7_analyse_96 rfl (lv_at hl 0 rfl) ?_
        refine lv_iconst (v := 1) hx hb dX7_analyse_97 (by decide) ?_
        refine gs_put (ws' := w_X7_analyse cI cZ cJ a_t a_tb a_tb_parameterCounts a_tb_lengths a_tb_fields a_tb_entries a_ta a_ta_parameterCounts a_ta_lengths a_ta_fields a_ta_entries a_tk a_tk_comeTo a_tk_any a_tk_numbers a_tf a_tfr a_tfr_any a_tfr_numbers a_tf_isWaiting a_tf_waiting a_tg a_ty a_th 1 tb_functionCount tb_entryCount tb_parameterCounts tb_lengths tb_fields tb_entries o4.2.1 ta_entryCount o4.2.2.1 o6.1 o6.2 ta_entries tk_comeTo tk_any tk_numbers tf_waitingCount tfr_any tfr_numbers tf_isWaiting tf_waiting) hC hW in_X7 tyX7_ok nmX7 0 7 rfl rfl (by decide) fl_X7_58 rfl (by decide) (by decide) (Nat.le_of_ble_eq_true rfl) rfl dX7_analyse_98 (fun H locs hW => ?_)
        refine lv_aload_n hx hb dX7_analyse_101 rfl (lv_at hl 0 rfl) ?_
        refine gs_get hC hW in_X7 0 2 rfl rfl (by decide) fl_X7_22 rfl dX7_analyse_102 ?_
        refine lv_aload_n hx hb dX7_analyse_105 rfl (lv_at hl 0 rfl) ?_
        refine gs_get hC hW in_X7 0 1 rfl rfl (by decide) fl_X7_16 rfl dX7_analyse_106 ?_
        refine gs_get hC hW in_X4 6 0 rfl rfl (by decide) fl_X7_75 rfl dX7_analyse_109 ?_
        obtain ⟨o7, h7, hf⟩ := g_bnd hf
        refine gs_callVi (ws' := w_X7_analyse cI cZ cJ a_t a_tb a_tb_parameterCounts a_tb_lengths a_tb_fields a_tb_entries a_ta a_ta_parameterCounts a_ta_lengths a_ta_fields a_ta_entries a_tk a_tk_comeTo a_tk_any a_tk_numbers a_tf a_tfr a_tfr_any a_tfr_numbers a_tf_isWaiting a_tf_waiting a_tg a_ty a_th 1 tb_functionCount tb_entryCount tb_parameterCounts tb_lengths tb_fields tb_entries o4.2.1 ta_entryCount o4.2.2.1 o6.1 o6.2 ta_entries tk_comeTo tk_any tk_numbers tf_waitingCount tfr_any tfr_numbers tf_isWaiting tf_waiting) hC hW (k_X1_countReached l tA dC dI cI cZ cJ a_tk a_tk_comeTo a_tk_any a_tk_numbers N o4.2.1 tk_comeTo _ h7) yk_X1_countReached lk_X7_154 iv_X1_countReached ⟨rfl, rfl⟩ ⟨Nat.le_of_ble_eq_true rfl, Nat.le_of_ble_eq_true rfl⟩ hl.1 11 rfl rfl [11, 12] [0, 1, 2, 3, 4, 5, 6, 7, 8, 9, 10, 13, 14, 15, 16, 17, 18, 19, 20, 21] [0, 1, 2, 3, 4, 5, 6, 7, 8, 9, 10, 20, 21, 11, 12, 13, 14, 15, 16, 17, 18, 19] rfl rfl rfl rfl (by decide) rfl rfl rfl rfl (Nat.le_of_ble_eq_true rfl) dX7_analyse_112 ⟨by decide, by decide⟩ (fun H locs hW => ?_)
        obtain rfl := Option.some.inj hf
        exact gs_rxi (o7, 1, o4.2.1, ta_entryCount, o4.2.2.1, o6.1, o6.2, ta_entries, tk_comeTo, tk_any, tk_numbers, tf_waitingCount, tfr_any, tfr_numbers, tf_isWaiting, tf_waiting) hC hW rfl rfl rfl (by decide) (by decide) dX7_analyse_115
      · replace hf := (if_neg c5).symm.trans hf
        refine lv_aload_n hx hb dX7_analyse_76 rfl (lv_at hl 0 rfl) ?_
        refine gs_get hC hW in_X7 0 3 rfl rfl (by decide) fl_X7_31 rfl dX7_analyse_77 ?_
        obtain ⟨o8, h8, hf⟩ := g_bnd hf
        refine gs_callVv (ws' := w_X7_analyse cI cZ cJ a_t a_tb a_tb_parameterCounts a_tb_lengths a_tb_fields a_tb_entries a_ta a_ta_parameterCounts a_ta_lengths a_ta_fields a_ta_entries a_tk a_tk_comeTo a_tk_any a_tk_numbers a_tf a_tfr a_tfr_any a_tfr_numbers a_tf_isWaiting a_tf_waiting a_tg a_ty a_th t_analysed tb_functionCount tb_entryCount tb_parameterCounts tb_lengths tb_fields tb_entries o4.2.1 ta_entryCount o4.2.2.1 o4.2.2.2.1 o4.2.2.2.2 ta_entries o8.2.1 o8.2.2.1 o8.2.2.2.1 o8.1 o8.2.2.2.2.1 o8.2.2.2.2.2.1 o8.2.2.2.2.2.2.1 o8.2.2.2.2.2.2.2) hC hW (k_X0_find l tA dC dI cI cZ cJ a_tf a_ta a_ta_parameterCounts a_ta_lengths a_ta_fields a_ta_entries a_tk a_tk_comeTo a_tk_any a_tk_numbers a_tfr a_tfr_any a_tfr_numbers a_tf_isWaiting a_tf_waiting N tf_waitingCount o4.2.1 ta_entryCount o4.2.2.1 o4.2.2.2.1 o4.2.2.2.2 ta_entries tk_comeTo tk_any tk_numbers tfr_any tfr_numbers tf_isWaiting tf_waiting _ h8) yk_X0_find lk_X7_144 iv_X0_find ⟨rfl, rfl⟩ ⟨Nat.le_of_ble_eq_true rfl, Nat.le_of_ble_eq_true rfl⟩ hl.1 15 rfl rfl [15, 6, 7, 8, 9, 10, 11, 12, 13, 14, 16, 17, 18, 19, 20] [0, 1, 2, 3, 4, 5, 21] [0, 1, 2, 3, 4, 5, 8, 9, 10, 11, 12, 13, 14, 15, 16, 7, 17, 18, 19, 20, 21, 6] rfl rfl rfl rfl (by decide) rfl rfl rfl rfl (Nat.le_of_ble_eq_true rfl) dX7_analyse_80 ⟨by decide, by decide⟩ (fun H locs hW => ?_)
        refine lv_iinc (v := x2 + 1) (lv' := [(2, .int (x2 + 1)), (0, .ref a_t), (1, .int x1)]) hx hb dX7_analyse_83 hl (k := 2) rfl rfl (by decide) rfl (fun ls hl => ?_)
        refine lv_goto (tgt := 61) hx hb dX7_analyse_86 (by decide) ?_
        exact ih _ _ _ _ _ _ _ _ _ _ _ _ _ _ _ _ _ hf _ _ _ hW (lv_sub hl [1, 2, 0] rfl)
def f_X7_analyse (N : Nat) (x1 : Int32) (t_analysed : Int32) (tb_functionCount : Int32) (tb_entryCount : Int32) (tb_parameterCounts : Nat → Int32) (tb_lengths : Nat → Int32) (tb_fields : Nat → Int32) (tb_entries : Nat → Int32) (ta_functionCount : Int32) (ta_entryCount : Int32) (ta_parameterCounts : Nat → Int32) (ta_lengths : Nat → Int32) (ta_fields : Nat → Int32) (ta_entries : Nat → Int32) (tk_comeTo : Nat → Int32) (tk_any : Nat → Int32) (tk_numbers : Nat → Int32) (tf_waitingCount : Int32) (tfr_any : Nat → Int32) (tfr_numbers : Nat → Int32) (tf_isWaiting : Nat → Int32) (tf_waiting : Nat → Int32) : Option ((Int32 × Int32 × Int32 × Int32 × (Nat → Int32) × (Nat → Int32) × (Nat → Int32) × (Nat → Int32) × (Nat → Int32) × (Nat → Int32) × (Nat → Int32) × Int32 × (Nat → Int32) × (Nat → Int32) × (Nat → Int32) × (Nat → Int32)) ⊕ String) := if x1 < 0 then some (.inr "java/lang/IllegalArgumentException") else if x1 ≤ 6 then (f_X4_hasFunction 0 tb_functionCount).bind (fun o11 => if o11 = 0 then some (.inr "java/lang/IllegalStateException") else (f_X4_becomeLike ta_functionCount ta_entryCount ta_parameterCounts ta_lengths ta_fields ta_entries tb_functionCount tb_entryCount tb_parameterCounts tb_lengths tb_fields tb_entries).bind (fun o13 => (f_X0_find N tf_waitingCount o13.2.1 o13.2.2.1 o13.2.2.2.1 o13.2.2.2.2.1 o13.2.2.2.2.2 tk_comeTo tk_any tk_numbers tfr_any tfr_numbers tf_isWaiting tf_waiting).bind (fun o14 => f_X7_analyse_61 N x1 tb_functionCount tb_entryCount tb_parameterCounts tb_lengths tb_fields tb_entries N 0 t_analysed o13.1 o13.2.1 o13.2.2.1 o13.2.2.2.1 o13.2.2.2.2.1 o13.2.2.2.2.2 o14.2.1 o14.2.2.1 o14.2.2.2.1 o14.1 o14.2.2.2.2.1 o14.2.2.2.2.2.1 o14.2.2.2.2.2.2.1 o14.2.2.2.2.2.2.2))) else some (.inr "java/lang/IllegalArgumentException")
set_option maxHeartbeats 4000000 in
set_option maxRecDepth 100000 in
theorem k_X7_analyse (l : Launch) (tA : Nat) (dC : Nat → ClassId) (dI : Nat → Nat → Nat) (cI cZ cJ : ClassId) (hlt : l.stackTraces = false) (a_t : Nat) (a_tb : Nat) (a_tb_parameterCounts : Nat) (a_tb_lengths : Nat) (a_tb_fields : Nat) (a_tb_entries : Nat) (a_ta : Nat) (a_ta_parameterCounts : Nat) (a_ta_lengths : Nat) (a_ta_fields : Nat) (a_ta_entries : Nat) (a_tk : Nat) (a_tk_comeTo : Nat) (a_tk_any : Nat) (a_tk_numbers : Nat) (a_tf : Nat) (a_tfr : Nat) (a_tfr_any : Nat) (a_tfr_numbers : Nat) (a_tf_isWaiting : Nat) (a_tf_waiting : Nat) (a_tg : Nat) (a_ty : Nat) (a_th : Nat) (N : Nat) (x1 : Int32) (t_analysed : Int32) (tb_functionCount : Int32) (tb_entryCount : Int32) (tb_parameterCounts : Nat → Int32) (tb_lengths : Nat → Int32) (tb_fields : Nat → Int32) (tb_entries : Nat → Int32) (ta_functionCount : Int32) (ta_entryCount : Int32) (ta_parameterCounts : Nat → Int32) (ta_lengths : Nat → Int32) (ta_fields : Nat → Int32) (ta_entries : Nat → Int32) (tk_comeTo : Nat → Int32) (tk_any : Nat → Int32) (tk_numbers : Nat → Int32) (tf_waitingCount : Int32) (tfr_any : Nat → Int32) (tfr_numbers : Nat → Int32) (tf_isWaiting : Nat → Int32) (tf_waiting : Nat → Int32) (out : (Int32 × Int32 × Int32 × Int32 × (Nat → Int32) × (Nat → Int32) × (Nat → Int32) × (Nat → Int32) × (Nat → Int32) × (Nat → Int32) × (Nat → Int32) × Int32 × (Nat → Int32) × (Nat → Int32) × (Nat → Int32) × (Nat → Int32)) ⊕ String) (hf : f_X7_analyse N x1 t_analysed tb_functionCount tb_entryCount tb_parameterCounts tb_lengths tb_fields tb_entries ta_functionCount ta_entryCount ta_parameterCounts ta_lengths ta_fields ta_entries tk_comeTo tk_any tk_numbers tf_waitingCount tfr_any tfr_numbers tf_isWaiting tf_waiting = some out) : g_MX l yX7_analyse cX7_analyse 3 (some .int) r_X7_analyse tA dC dI cI cZ cJ [.ref a_t, .int x1] (w_X7_analyse cI cZ cJ a_t a_tb a_tb_parameterCounts a_tb_lengths a_tb_fields a_tb_entries a_ta a_ta_parameterCounts a_ta_lengths a_ta_fields a_ta_entries a_tk a_tk_comeTo a_tk_any a_tk_numbers a_tf a_tfr a_tfr_any a_tfr_numbers a_tf_isWaiting a_tf_waiting a_tg a_ty a_th t_analysed tb_functionCount tb_entryCount tb_parameterCounts tb_lengths tb_fields tb_entries ta_functionCount ta_entryCount ta_parameterCounts ta_lengths ta_fields ta_entries tk_comeTo tk_any tk_numbers tf_waitingCount tfr_any tfr_numbers tf_isWaiting tf_waiting) (fun u => w_X7_analyse cI cZ cJ a_t a_tb a_tb_parameterCounts a_tb_lengths a_tb_fields a_tb_entries a_ta a_ta_parameterCounts a_ta_lengths a_ta_fields a_ta_entries a_tk a_tk_comeTo a_tk_any a_tk_numbers a_tf a_tfr a_tfr_any a_tfr_numbers a_tf_isWaiting a_tf_waiting a_tg a_ty a_th u.2.1 tb_functionCount tb_entryCount tb_parameterCounts tb_lengths tb_fields tb_entries u.2.2.1 u.2.2.2.1 u.2.2.2.2.1 u.2.2.2.2.2.1 u.2.2.2.2.2.2.1 u.2.2.2.2.2.2.2.1 u.2.2.2.2.2.2.2.2.1 u.2.2.2.2.2.2.2.2.2.1 u.2.2.2.2.2.2.2.2.2.2.1 u.2.2.2.2.2.2.2.2.2.2.2.1 u.2.2.2.2.2.2.2.2.2.2.2.2.1 u.2.2.2.2.2.2.2.2.2.2.2.2.2.1 u.2.2.2.2.2.2.2.2.2.2.2.2.2.2.1 u.2.2.2.2.2.2.2.2.2.2.2.2.2.2.2) (fun u => u.1) out := by
  unfold f_X7_analyse at hf
  refine ge_x (by decide) (Nat.le_of_ble_eq_true rfl) (fun p e s m below meth c A H locs ls hC hxt hH hW hl => ?_)
  have hC : g_C p s m meth c _ cX7_analyse 3 (some .int) RX7 := hC
  have hx := hC.1
  have hb := hC.2.1
  have hown := hC.2.2.2.2.1
  have hts := hC.2.2.2.2.2.1
  have hl : lv_has ls 3 [(0, .ref a_t), (1, .int x1)] := hl
  refine lv_iload_n hx hb dX7_analyse_0 rfl (lv_at hl 1 rfl) ?_
  refine lv_if_lt (tgt := 10) hx hb dX7_analyse_1 (by decide) (fun c9 => ?_) (fun c9 => ?_)
  · replace hf := (if_pos c9).symm.trans hf
    obtain rfl := Option.some.inj hf
    exact gs_throw (text := "0 to 6 copies may be made") hC hW hH hlt hxt gE_62 (by decide) rfl rfl hl.1 dX7_analyse_10 dX7_analyse_13 dX7_analyse_14 dX7_analyse_16 dX7_analyse_19 (by decide) (by decide) (by decide) (by decide)
  · replace hf := (if_neg c9).symm.trans hf
    refine lv_iload_n hx hb dX7_analyse_4 rfl (lv_at hl 1 rfl) ?_
    refine lv_bipush (v := 6) hx hb dX7_analyse_5 (by decide) ?_
    refine lv_icmp_le (tgt := 20) hx hb dX7_analyse_7 (by decide) (fun c10 => ?_) (fun c10 => ?_)
    · replace hf := (if_pos c10).symm.trans hf
      refine lv_aload_n hx hb dX7_analyse_20 rfl (lv_at hl 0 rfl) ?_
      refine gs_get hC hW in_X7 0 0 rfl rfl (by decide) fl_X7_12 rfl dX7_analyse_21 ?_
      refine lv_iconst (v := 0) hx hb dX7_analyse_24 (by decide) ?_
      obtain ⟨o11, h11, hf⟩ := g_bnd hf
      refine gs_callVi (ws' := w_X7_analyse cI cZ cJ a_t a_tb a_tb_parameterCounts a_tb_lengths a_tb_fields a_tb_entries a_ta a_ta_parameterCounts a_ta_lengths a_ta_fields a_ta_entries a_tk a_tk_comeTo a_tk_any a_tk_numbers a_tf a_tfr a_tfr_any a_tfr_numbers a_tf_isWaiting a_tf_waiting a_tg a_ty a_th t_analysed tb_functionCount tb_entryCount tb_parameterCounts tb_lengths tb_fields tb_entries ta_functionCount ta_entryCount ta_parameterCounts ta_lengths ta_fields ta_entries tk_comeTo tk_any tk_numbers tf_waitingCount tfr_any tfr_numbers tf_isWaiting tf_waiting) hC hW (k_X4_hasFunction l tA dC dI cI cZ cJ a_tb a_tb_parameterCounts a_tb_lengths a_tb_fields a_tb_entries 0 tb_functionCount tb_entryCount _ h11) yk_X4_hasFunction lk_X7_69 iv_X4_hasFunction ⟨rfl, rfl⟩ ⟨Nat.le_of_ble_eq_true rfl, Nat.le_of_ble_eq_true rfl⟩ hl.1 1 rfl rfl [1] [0, 2, 3, 4, 5, 6, 7, 8, 9, 10, 11, 12, 13, 14, 15, 16, 17, 18, 19, 20, 21] [0, 21, 1, 2, 3, 4, 5, 6, 7, 8, 9, 10, 11, 12, 13, 14, 15, 16, 17, 18, 19, 20] rfl rfl rfl rfl (by decide) rfl rfl rfl rfl (Nat.le_of_ble_eq_true rfl) dX7_analyse_25 ⟨by decide, by decide⟩ (fun H locs hW => ?_)
      refine lv_if_ne (tgt := 41) hx hb dX7_analyse_28 (by decide) (fun c12 => ?_) (fun c12 => ?_)
      · replace hf := (if_neg c12).symm.trans hf
        refine lv_aload_n hx hb dX7_analyse_41 rfl (lv_at hl 0 rfl) ?_
        refine gs_get hC hW in_X7 0 1 rfl rfl (by decide) fl_X7_16 rfl dX7_analyse_42 ?_
        refine lv_aload_n hx hb dX7_analyse_45 rfl (lv_at hl 0 rfl) ?_
        refine gs_get hC hW in_X7 0 0 rfl rfl (by decide) fl_X7_12 rfl dX7_analyse_46 ?_
        obtain ⟨o13, h13, hf⟩ := g_bnd hf
        refine gs_callVv (ws' := w_X7_analyse cI cZ cJ a_t a_tb a_tb_parameterCounts a_tb_lengths a_tb_fields a_tb_entries a_ta a_ta_parameterCounts a_ta_lengths a_ta_fields a_ta_entries a_tk a_tk_comeTo a_tk_any a_tk_numbers a_tf a_tfr a_tfr_any a_tfr_numbers a_tf_isWaiting a_tf_waiting a_tg a_ty a_th t_analysed tb_functionCount tb_entryCount tb_parameterCounts tb_lengths tb_fields tb_entries o13.1 o13.2.1 o13.2.2.1 o13.2.2.2.1 o13.2.2.2.2.1 o13.2.2.2.2.2 tk_comeTo tk_any tk_numbers tf_waitingCount tfr_any tfr_numbers tf_isWaiting tf_waiting) hC hW (k_X4_becomeLike l tA dC dI cI cZ cJ a_ta a_ta_parameterCounts a_ta_lengths a_ta_fields a_ta_entries a_tb a_tb_parameterCounts a_tb_lengths a_tb_fields a_tb_entries ta_functionCount ta_entryCount ta_parameterCounts ta_lengths ta_fields ta_entries tb_functionCount tb_entryCount tb_parameterCounts tb_lengths tb_fields tb_entries _ h13) yk_X4_becomeLike lk_X7_140 iv_X4_becomeLike ⟨rfl, rfl⟩ ⟨Nat.le_of_ble_eq_true rfl, Nat.le_of_ble_eq_true rfl⟩ hl.1 6 rfl rfl [6, 7, 8, 9, 10, 1, 2, 3, 4, 5] [0, 11, 12, 13, 14, 15, 16, 17, 18, 19, 20, 21] [0, 17, 18, 19, 20, 21, 12, 13, 14, 15, 16, 1, 2, 3, 4, 5, 6, 7, 8, 9, 10, 11] rfl rfl rfl rfl (by decide) rfl rfl rfl rfl (Nat.le_of_ble_eq_true rfl) dX7_analyse_49 ⟨by decide, by decide⟩ (fun H locs hW => ?_)
        refine lv_aload_n hx hb dX7_analyse_52 rfl (lv_at hl 0 rfl) ?_
        refine gs_get hC hW in_X7 0 3 rfl rfl (by decide) fl_X7_31 rfl dX7_analyse_53 ?_
        obtain ⟨o14, h14, hf⟩ := g_bnd hf
        refine gs_callVv (ws' := w_X7_analyse cI cZ cJ a_t a_tb a_tb_parameterCounts a_tb_lengths a_tb_fields a_tb_entries a_ta a_ta_parameterCounts a_ta_lengths a_ta_fields a_ta_entries a_tk a_tk_comeTo a_tk_any a_tk_numbers a_tf a_tfr a_tfr_any a_tfr_numbers a_tf_isWaiting a_tf_waiting a_tg a_ty a_th t_analysed tb_functionCount tb_entryCount tb_parameterCounts tb_lengths tb_fields tb_entries o13.1 o13.2.1 o13.2.2.1 o13.2.2.2.1 o13.2.2.2.2.1 o13.2.2.2.2.2 o14.2.1 o14.2.2.1 o14.2.2.2.1 o14.1 o14.2.2.2.2.1 o14.2.2.2.2.2.1 o14.2.2.2.2.2.2.1 o14.2.2.2.2.2.2.2) hC hW (k_X0_find l tA dC dI cI cZ cJ a_tf a_ta a_ta_parameterCounts a_ta_lengths a_ta_fields a_ta_entries a_tk a_tk_comeTo a_tk_any a_tk_numbers a_tfr a_tfr_any a_tfr_numbers a_tf_isWaiting a_tf_waiting N tf_waitingCount o13.1 o13.2.1 o13.2.2.1 o13.2.2.2.1 o13.2.2.2.2.1 o13.2.2.2.2.2 tk_comeTo tk_any tk_numbers tfr_any tfr_numbers tf_isWaiting tf_waiting _ h14) yk_X0_find lk_X7_144 iv_X0_find ⟨rfl, rfl⟩ ⟨Nat.le_of_ble_eq_true rfl, Nat.le_of_ble_eq_true rfl⟩ hl.1 15 rfl rfl [15, 6, 7, 8, 9, 10, 11, 12, 13, 14, 16, 17, 18, 19, 20] [0, 1, 2, 3, 4, 5, 21] [0, 1, 2, 3, 4, 5, 8, 9, 10, 11, 12, 13, 14, 15, 16, 7, 17, 18, 19, 20, 21, 6] rfl rfl rfl rfl (by decide) rfl rfl rfl rfl (Nat.le_of_ble_eq_true rfl) dX7_analyse_56 ⟨by decide, by decide⟩ (fun H locs hW => ?_)
        refine lv_iconst (v := 0) hx hb dX7_analyse_59 (by decide) ?_
        refine lv_istore_n (lv' := [(2, .int 0), (0, .ref a_t), (1, .int x1)]) hx hb dX7_analyse_60 rfl hl (by decide) rfl (fun ls hl => ?_)
        exact b_X7_analyse_61 hC hlt hxt hH N _ _ _ _ _ _ _ _ _ _ _ _ _ _ _ _ _ hf _ _ _ hW (lv_sub hl [1, 2, 0] rfl)
      · replace hf := (if_pos c12).symm.trans hf
        obtain rfl := Option.some.inj hf
        exact gs_throw (text := "there is no main") hC hW hH hlt hxt gE_79 (by decide) rfl rfl hl.1 dX7_analyse_31 dX7_analyse_34 dX7_analyse_35 dX7_analyse_37 dX7_analyse_40 (by decide) (by decide) (by decide) (by decide)
    · replace hf := (if_neg c10).symm.trans hf
      obtain rfl := Option.some.inj hf
      exact gs_throw (text := "0 to 6 copies may be made") hC hW hH hlt hxt gE_62 (by decide) rfl rfl hl.1 dX7_analyse_10 dX7_analyse_13 dX7_analyse_14 dX7_analyse_16 dX7_analyse_19 (by decide) (by decide) (by decide) (by decide)

abbrev w_X7_askedPlace (cI cZ cJ : ClassId) (a_t : Nat) (a_ta : Nat) (a_ta_lengths : Nat) (a_tb : Nat) (a_tk : Nat) (a_tf : Nat) (a_tg : Nat) (a_ty : Nat) (a_th : Nat) (a_ta_parameterCounts : Nat) (a_ta_fields : Nat) (a_ta_entries : Nat) (t_analysed : Int32) (ta_functionCount : Int32) (ta_entryCount : Int32) (ta_lengths : Nat → Int32) : va_W := [(a_t, .inr (7, [.ref a_tb, .ref a_ta, .ref a_tk, .ref a_tf, .ref a_tg, .ref a_ty, .ref a_th, .int t_analysed])), (a_ta, .inr (4, [.int ta_functionCount, .int ta_entryCount, .ref a_ta_parameterCounts, .ref a_ta_lengths, .ref a_ta_fields, .ref a_ta_entries])), (a_ta_lengths, .inl (cI, 12, .inl ta_lengths))]
abbrev r_X7_askedPlace : Room := { frames := 6, cells := 1, slots := 6, locals := 82 }
def f_X7_askedPlace (x1 : Int32) (x2 : Int32) (x3 : Int32) (t_analysed : Int32) (ta_functionCount : Int32) (ta_lengths : Nat → Int32) : Option ((Int32) ⊕ String) := if t_analysed = 0 then some (.inr "java/lang/IllegalStateException") else (f_X4_hasFunction x1 ta_functionCount).bind (fun o2 => if o2 = 0 then some (.inr "java/lang/IndexOutOfBoundsException") else if x2 < 0 then some (.inr "java/lang/IndexOutOfBoundsException") else if 17 ≤ x2 then some (.inr "java/lang/IndexOutOfBoundsException") else if x3 < 0 then some (.inr "java/lang/IndexOutOfBoundsException") else if x3 < 6 then (f_X4_placeOf x1 x2 ta_lengths).bind (fun o8 => some (.inl o8)) else some (.inr "java/lang/IndexOutOfBoundsException"))
set_option maxHeartbeats 4000000 in
set_option maxRecDepth 100000 in
theorem k_X7_askedPlace (l : Launch) (tA : Nat) (dC : Nat → ClassId) (dI : Nat → Nat → Nat) (cI cZ cJ : ClassId) (hlt : l.stackTraces = false) (a_t : Nat) (a_ta : Nat) (a_ta_lengths : Nat) (a_tb : Nat) (a_tk : Nat) (a_tf : Nat) (a_tg : Nat) (a_ty : Nat) (a_th : Nat) (a_ta_parameterCounts : Nat) (a_ta_fields : Nat) (a_ta_entries : Nat) (x1 : Int32) (x2 : Int32) (x3 : Int32) (t_analysed : Int32) (ta_functionCount : Int32) (ta_entryCount : Int32) (ta_lengths : Nat → Int32) (out : (Int32) ⊕ String) (hf : f_X7_askedPlace x1 x2 x3 t_analysed ta_functionCount ta_lengths = some out) : g_MX l yX7_askedPlace cX7_askedPlace 4 (some .int) r_X7_askedPlace tA dC dI cI cZ cJ [.ref a_t, .int x1, .int x2, .int x3] (w_X7_askedPlace cI cZ cJ a_t a_ta a_ta_lengths a_tb a_tk a_tf a_tg a_ty a_th a_ta_parameterCounts a_ta_fields a_ta_entries t_analysed ta_functionCount ta_entryCount ta_lengths) (fun u => w_X7_askedPlace cI cZ cJ a_t a_ta a_ta_lengths a_tb a_tk a_tf a_tg a_ty a_th a_ta_parameterCounts a_ta_fields a_ta_entries t_analysed ta_functionCount ta_entryCount ta_lengths) (fun u => u) out := by
  unfold f_X7_askedPlace at hf
  refine ge_x (by decide) (Nat.le_of_ble_eq_true rfl) (fun p e s m below meth c A H locs ls hC hxt hH hW hl => ?_)
  have hC : g_C p s m meth c _ cX7_askedPlace 4 (some .int) RX7 := hC
  have hx := hC.1
  have hb := hC.2.1
  have hown := hC.2.2.2.2.1
  have hts := hC.2.2.2.2.2.1
  have hl : lv_has ls 4 [(0, .ref a_t), (1, .int x1), (2, .int x2), (3, .int x3)] := hl
  refine lv_aload_n hx hb dX7_askedPlace_0 rfl (lv_at hl 0 rfl) ?_
  refine gs_get hC hW in_X7 0 7 rfl rfl (by decide) fl_X7_58 rfl dX7_askedPlace_1 ?_
  refine lv_if_ne (tgt := 17) hx hb dX7_askedPlace_4 (by decide) (fun c1 => ?_) (fun c1 => ?_)
  · replace hf := (if_neg c1).symm.trans hf
    refine lv_aload_n hx hb dX7_askedPlace_17 rfl (lv_at hl 0 rfl) ?_
    refine gs_get hC hW in_X7 0 1 rfl rfl (by decide) fl_X7_16 rfl dX7_askedPlace_18 ?_
    refine lv_iload_n hx hb dX7_askedPlace_21 rfl (lv_at hl 1 rfl) ?_
    obtain ⟨o2, h2, hf⟩ := g_bnd hf
    refine gs_callVi (ws' := w_X7_askedPlace cI cZ cJ a_t a_ta a_ta_lengths a_tb a_tk a_tf a_tg a_ty a_th a_ta_parameterCounts a_ta_fields a_ta_entries t_analysed ta_functionCount ta_entryCount ta_lengths) hC hW (k_X4_hasFunction l tA dC dI cI cZ cJ a_ta a_ta_parameterCounts a_ta_lengths a_ta_fields a_ta_entries x1 ta_functionCount ta_entryCount _ h2) yk_X4_hasFunction lk_X7_69 iv_X4_hasFunction ⟨rfl, rfl⟩ ⟨Nat.le_of_ble_eq_true rfl, Nat.le_of_ble_eq_true rfl⟩ hl.1 1 rfl rfl [1] [0, 2] [0, 2, 1] rfl rfl rfl rfl (by decide) rfl rfl rfl rfl (Nat.le_of_ble_eq_true rfl) dX7_askedPlace_22 ⟨by decide, by decide⟩ (fun H locs hW => ?_)
    refine lv_if_eq (tgt := 48) hx hb dX7_askedPlace_25 (by decide) (fun c3 => ?_) (fun c3 => ?_)
    · replace hf := (if_pos c3).symm.trans hf
      obtain rfl := Option.some.inj hf
      exact gs_throw (text := "no such function, place or register") hC hW hH hlt hxt gE_88 (by decide) rfl rfl hl.1 dX7_askedPlace_48 dX7_askedPlace_51 dX7_askedPlace_52 dX7_askedPlace_54 dX7_askedPlace_57 (by decide) (by decide) (by decide) (by decide)
    · replace hf := (if_neg c3).symm.trans hf
      refine lv_iload_n hx hb dX7_askedPlace_28 rfl (lv_at hl 2 rfl) ?_
      refine lv_if_lt (tgt := 48) hx hb dX7_askedPlace_29 (by decide) (fun c4 => ?_) (fun c4 => ?_)
      · replace hf := (if_pos c4).symm.trans hf
        obtain rfl := Option.some.inj hf
        exact gs_throw (text := "no such function, place or register") hC hW hH hlt hxt gE_88 (by decide) rfl rfl hl.1 dX7_askedPlace_48 dX7_askedPlace_51 dX7_askedPlace_52 dX7_askedPlace_54 dX7_askedPlace_57 (by decide) (by decide) (by decide) (by decide)
      · replace hf := (if_neg c4).symm.trans hf
        refine lv_iload_n hx hb dX7_askedPlace_32 rfl (lv_at hl 2 rfl) ?_
        refine lv_bipush (v := 17) hx hb dX7_askedPlace_33 (by decide) ?_
        refine lv_icmp_ge (tgt := 48) hx hb dX7_askedPlace_35 (by decide) (fun c5 => ?_) (fun c5 => ?_)
        · replace hf := (if_pos c5).symm.trans hf
          obtain rfl := Option.some.inj hf
          exact gs_throw (text := "no such function, place or register") hC hW hH hlt hxt gE_88 (by decide) rfl rfl hl.1 dX7_askedPlace_48 dX7_askedPlace_51 dX7_askedPlace_52 dX7_askedPlace_54 dX7_askedPlace_57 (by decide) (by decide) (by decide) (by decide)
        · replace hf := (if_neg c5).symm.trans hf
          refine lv_iload_n hx hb dX7_askedPlace_38 rfl (lv_at hl 3 rfl) ?_
          refine lv_if_lt (tgt := 48) hx hb dX7_askedPlace_39 (by decide) (fun c6 => ?_) (fun c6 => ?_)
          · replace hf := (if_pos c6).symm.trans hf
            obtain rfl := Option.some.inj hf
            exact gs_throw (text := "no such function, place or register") hC hW hH hlt hxt gE_88 (by decide) rfl rfl hl.1 dX7_askedPlace_48 dX7_askedPlace_51 dX7_askedPlace_52 dX7_askedPlace_54 dX7_askedPlace_57 (by decide) (by decide) (by decide) (by decide)
          · replace hf := (if_neg c6).symm.trans hf
            refine lv_iload_n hx hb dX7_askedPlace_42 rfl (lv_at hl 3 rfl) ?_
            refine lv_bipush (v := 6) hx hb dX7_askedPlace_43 (by decide) ?_
            refine lv_icmp_lt (tgt := 58) hx hb dX7_askedPlace_45 (by decide) (fun c7 => ?_) (fun c7 => ?_)
            · replace hf := (if_pos c7).symm.trans hf
              refine lv_aload_n hx hb dX7_askedPlace_58 rfl (lv_at hl 0 rfl) ?_
              refine gs_get hC hW in_X7 0 1 rfl rfl (by decide) fl_X7_16 rfl dX7_askedPlace_59 ?_
              refine lv_iload_n hx hb dX7_askedPlace_62 rfl (lv_at hl 1 rfl) ?_
              refine lv_iload_n hx hb dX7_askedPlace_63 rfl (lv_at hl 2 rfl) ?_
              obtain ⟨o8, h8, hf⟩ := g_bnd hf
              refine gs_callVi (ws' := w_X7_askedPlace cI cZ cJ a_t a_ta a_ta_lengths a_tb a_tk a_tf a_tg a_ty a_th a_ta_parameterCounts a_ta_fields a_ta_entries t_analysed ta_functionCount ta_entryCount ta_lengths) hC hW (k_X4_placeOf l tA dC dI cI cZ cJ a_ta a_ta_lengths a_ta_parameterCounts a_ta_fields a_ta_entries x1 x2 ta_functionCount ta_entryCount ta_lengths _ h8) yk_X4_placeOf lk_X7_218 iv_X4_placeOf ⟨rfl, rfl⟩ ⟨Nat.le_of_ble_eq_true rfl, Nat.le_of_ble_eq_true rfl⟩ hl.1 1 rfl rfl [1, 2] [0] [0, 1, 2] rfl rfl rfl rfl (by decide) rfl rfl rfl rfl (Nat.le_of_ble_eq_true rfl) dX7_askedPlace_64 ⟨by decide, by decide⟩ (fun H locs hW => ?_)
              obtain rfl := Option.some.inj hf
              exact gs_rxi o8 hC hW rfl rfl rfl (by decide) (by decide) dX7_askedPlace_67
            · replace hf := (if_neg c7).symm.trans hf
              obtain rfl := Option.some.inj hf
              exact gs_throw (text := "no such function, place or register") hC hW hH hlt hxt gE_88 (by decide) rfl rfl hl.1 dX7_askedPlace_48 dX7_askedPlace_51 dX7_askedPlace_52 dX7_askedPlace_54 dX7_askedPlace_57 (by decide) (by decide) (by decide) (by decide)
  · replace hf := (if_pos c1).symm.trans hf
    obtain rfl := Option.some.inj hf
    exact gs_throw (text := "nothing is known") hC hW hH hlt hxt gE_79 (by decide) rfl rfl hl.1 dX7_askedPlace_7 dX7_askedPlace_10 dX7_askedPlace_11 dX7_askedPlace_13 dX7_askedPlace_16 (by decide) (by decide) (by decide) (by decide)

abbrev w_X7_kind (cI cZ cJ : ClassId) (a_t : Nat) (a_ta : Nat) (a_ta_lengths : Nat) (a_tk : Nat) (a_tk_comeTo : Nat) (a_tk_any : Nat) (a_tb : Nat) (a_tf : Nat) (a_tg : Nat) (a_ty : Nat) (a_th : Nat) (a_ta_parameterCounts : Nat) (a_ta_fields : Nat) (a_ta_entries : Nat) (a_tk_numbers : Nat) (t_analysed : Int32) (ta_functionCount : Int32) (ta_entryCount : Int32) (ta_lengths : Nat → Int32) (tk_comeTo : Nat → Int32) (tk_any : Nat → Int32) : va_W := [(a_t, .inr (7, [.ref a_tb, .ref a_ta, .ref a_tk, .ref a_tf, .ref a_tg, .ref a_ty, .ref a_th, .int t_analysed])), (a_ta, .inr (4, [.int ta_functionCount, .int ta_entryCount, .ref a_ta_parameterCounts, .ref a_ta_lengths, .ref a_ta_fields, .ref a_ta_entries])), (a_ta_lengths, .inl (cI, 12, .inl ta_lengths)), (a_tk, .inr (1, [.ref a_tk_comeTo, .ref a_tk_any, .ref a_tk_numbers])), (a_tk_comeTo, .inl (cZ, 204, .inl tk_comeTo)), (a_tk_any, .inl (cZ, 1224, .inl tk_any))]
abbrev r_X7_kind : Room := { frames := 7, cells := 1, slots := 6, locals := 105 }
def f_X7_kind (x1 : Int32) (x2 : Int32) (x3 : Int32) (t_analysed : Int32) (ta_functionCount : Int32) (ta_lengths : Nat → Int32) (tk_comeTo : Nat → Int32) (tk_any : Nat → Int32) : Option ((Int32) ⊕ String) := (f_X7_askedPlace x1 x2 x3 t_analysed ta_functionCount ta_lengths).bind (fun o1 => g_cs o1 (fun u2 => (g_rd 204 tk_comeTo u2).bind (fun v3 => if v3 = 0 then some (.inl 0) else (f_X1_hasNumber u2 x3 tk_any).bind (fun o5 => if o5 = 0 then some (.inl 2) else some (.inl 1)))))
set_option maxHeartbeats 4000000 in
set_option maxRecDepth 100000 in
theorem k_X7_kind (l : Launch) (tA : Nat) (dC : Nat → ClassId) (dI : Nat → Nat → Nat) (cI cZ cJ : ClassId) (hlt : l.stackTraces = false) (a_t : Nat) (a_ta : Nat) (a_ta_lengths : Nat) (a_tk : Nat) (a_tk_comeTo : Nat) (a_tk_any : Nat) (a_tb : Nat) (a_tf : Nat) (a_tg : Nat) (a_ty : Nat) (a_th : Nat) (a_ta_parameterCounts : Nat) (a_ta_fields : Nat) (a_ta_entries : Nat) (a_tk_numbers : Nat) (x1 : Int32) (x2 : Int32) (x3 : Int32) (t_analysed : Int32) (ta_functionCount : Int32) (ta_entryCount : Int32) (ta_lengths : Nat → Int32) (tk_comeTo : Nat → Int32) (tk_any : Nat → Int32) (out : (Int32) ⊕ String) (hf : f_X7_kind x1 x2 x3 t_analysed ta_functionCount ta_lengths tk_comeTo tk_any = some out) : g_MX l yX7_kind cX7_kind 5 (some .int) r_X7_kind tA dC dI cI cZ cJ [.ref a_t, .int x1, .int x2, .int x3] (w_X7_kind cI cZ cJ a_t a_ta a_ta_lengths a_tk a_tk_comeTo a_tk_any a_tb a_tf a_tg a_ty a_th a_ta_parameterCounts a_ta_fields a_ta_entries a_tk_numbers t_analysed ta_functionCount ta_entryCount ta_lengths tk_comeTo tk_any) (fun u => w_X7_kind cI cZ cJ a_t a_ta a_ta_lengths a_tk a_tk_comeTo a_tk_any a_tb a_tf a_tg a_ty a_th a_ta_parameterCounts a_ta_fields a_ta_entries a_tk_numbers t_analysed ta_functionCount ta_entryCount ta_lengths tk_comeTo tk_any) (fun u => u) out := by
  unfold f_X7_kind at hf
  refine ge_x (by decide) (Nat.le_of_ble_eq_true rfl) (fun p e s m below meth c A H locs ls hC hxt hH hW hl => ?_)
  have hC : g_C p s m meth c _ cX7_kind 5 (some .int) RX7 := hC
  have hx := hC.1
  have hb := hC.2.1
  have hown := hC.2.2.2.2.1
  have hts := hC.2.2.2.2.2.1
  have hl : lv_has ls 5 [(0, .ref a_t), (1, .int x1), (2, .int x2), (3, .int x3)] := hl
  refine lv_aload_n hx hb dX7_kind_0 rfl (lv_at hl 0 rfl) ?_
  refine lv_iload_n hx hb dX7_kind_1 rfl (lv_at hl 1 rfl) ?_
  refine lv_iload_n hx hb dX7_kind_2 rfl (lv_at hl 2 rfl) ?_
  refine lv_iload_n hx hb dX7_kind_3 rfl (lv_at hl 3 rfl) ?_
  obtain ⟨o1, h1, hf⟩ := g_bnd hf
  refine gs_callXi (ws' := fun _ => w_X7_kind cI cZ cJ a_t a_ta a_ta_lengths a_tk a_tk_comeTo a_tk_any a_tb a_tf a_tg a_ty a_th a_ta_parameterCounts a_ta_fields a_ta_entries a_tk_numbers t_analysed ta_functionCount ta_entryCount ta_lengths tk_comeTo tk_any) hC hW hH hxt (k_X7_askedPlace l tA dC dI cI cZ cJ hlt a_t a_ta a_ta_lengths a_tb a_tk a_tf a_tg a_ty a_th a_ta_parameterCounts a_ta_fields a_ta_entries x1 x2 x3 t_analysed ta_functionCount ta_entryCount ta_lengths _ h1) hf rfl yk_X7_askedPlace lk_X7_157 iv_X7_askedPlace ⟨rfl, rfl⟩ ⟨Nat.le_of_ble_eq_true rfl, Nat.le_of_ble_eq_true rfl⟩ hl.1 0 rfl rfl [0, 1, 2] [3, 4, 5] [3, 4, 5, 0, 1, 2] rfl rfl rfl rfl (by decide) rfl (fun _ => rfl) rfl rfl rfl (Nat.le_of_ble_eq_true rfl) dX7_kind_4 ⟨by decide, by decide⟩ (fun u2 H locs hf hW => ?_)
  refine lv_istore (lv' := [(4, .int u2), (0, .ref a_t), (1, .int x1), (2, .int x2), (3, .int x3)]) hx hb dX7_kind_7 hl (by decide) rfl (fun ls hl => ?_)
  refine lv_aload_n hx hb dX7_kind_9 rfl (lv_at hl 1 rfl) ?_
  refine gs_get hC hW in_X7 0 2 rfl rfl (by decide) fl_X7_22 rfl dX7_kind_10 ?_
  refine gs_get hC hW in_X1 3 0 rfl rfl (by decide) fl_X7_161 rfl dX7_kind_13 ?_
  refine lv_iload hx hb dX7_kind_16 (lv_at hl 0 rfl) ?_
  obtain ⟨v3, h3, hf⟩ := g_bnd hf
  refine gs_zald hC hW 4 h3 rfl dX7_kind_18 ?_
  refine lv_if_ne (tgt := 24) hx hb dX7_kind_19 (by decide) (fun c4 => ?_) (fun c4 => ?_)
  · replace hf := (if_neg c4).symm.trans hf
    refine lv_aload_n hx hb dX7_kind_24 rfl (lv_at hl 1 rfl) ?_
    refine gs_get hC hW in_X7 0 2 rfl rfl (by decide) fl_X7_22 rfl dX7_kind_25 ?_
    refine lv_iload hx hb dX7_kind_28 (lv_at hl 0 rfl) ?_
    refine lv_iload_n hx hb dX7_kind_30 rfl (lv_at hl 4 rfl) ?_
    obtain ⟨o5, h5, hf⟩ := g_bnd hf
    refine gs_callVi (ws' := w_X7_kind cI cZ cJ a_t a_ta a_ta_lengths a_tk a_tk_comeTo a_tk_any a_tb a_tf a_tg a_ty a_th a_ta_parameterCounts a_ta_fields a_ta_entries a_tk_numbers t_analysed ta_functionCount ta_entryCount ta_lengths tk_comeTo tk_any) hC hW (k_X1_hasNumber l tA dC dI cI cZ cJ a_tk a_tk_any a_tk_comeTo a_tk_numbers u2 x3 tk_any _ h5) yk_X1_hasNumber lk_X7_165 iv_X1_hasNumber ⟨rfl, rfl⟩ ⟨Nat.le_of_ble_eq_true rfl, Nat.le_of_ble_eq_true rfl⟩ hl.1 3 rfl rfl [3, 5] [0, 1, 2, 4] [0, 1, 2, 4, 3, 5] rfl rfl rfl rfl (by decide) rfl rfl rfl rfl (Nat.le_of_ble_eq_true rfl) dX7_kind_31 ⟨by decide, by decide⟩ (fun H locs hW => ?_)
    refine lv_if_eq (tgt := 41) hx hb dX7_kind_34 (by decide) (fun c6 => ?_) (fun c6 => ?_)
    · replace hf := (if_pos c6).symm.trans hf
      refine lv_iconst (v := 2) hx hb dX7_kind_41 (by decide) ?_
      obtain rfl := Option.some.inj hf
      exact gs_rxi 2 hC hW rfl rfl rfl (by decide) (by decide) dX7_kind_42
    · replace hf := (if_neg c6).symm.trans hf
      refine lv_iconst (v := 1) hx hb dX7_kind_37 (by decide) ?_
      refine lv_goto (tgt := 42) hx hb dX7_kind_38 (by decide) ?_
      obtain rfl := Option.some.inj hf
      exact gs_rxi 1 hC hW rfl rfl rfl (by decide) (by decide) dX7_kind_42
  · replace hf := (if_pos c4).symm.trans hf
    refine lv_iconst (v := 0) hx hb dX7_kind_22 (by decide) ?_
    obtain rfl := Option.some.inj hf
    exact gs_rxi 0 hC hW rfl rfl rfl (by decide) (by decide) dX7_kind_23

abbrev w_X7_number (cI cZ cJ : ClassId) (a_t : Nat) (a_ta : Nat) (a_ta_lengths : Nat) (a_tk : Nat) (a_tk_comeTo : Nat) (a_tk_any : Nat) (a_tk_numbers : Nat) (a_tb : Nat) (a_tf : Nat) (a_tg : Nat) (a_ty : Nat) (a_th : Nat) (a_ta_parameterCounts : Nat) (a_ta_fields : Nat) (a_ta_entries : Nat) (t_analysed : Int32) (ta_functionCount : Int32) (ta_entryCount : Int32) (ta_lengths : Nat → Int32) (tk_comeTo : Nat → Int32) (tk_any : Nat → Int32) (tk_numbers : Nat → Int32) : va_W := [(a_t, .inr (7, [.ref a_tb, .ref a_ta, .ref a_tk, .ref a_tf, .ref a_tg, .ref a_ty, .ref a_th, .int t_analysed])), (a_ta, .inr (4, [.int ta_functionCount, .int ta_entryCount, .ref a_ta_parameterCounts, .ref a_ta_lengths, .ref a_ta_fields, .ref a_ta_entries])), (a_ta_lengths, .inl (cI, 12, .inl ta_lengths)), (a_tk, .inr (1, [.ref a_tk_comeTo, .ref a_tk_any, .ref a_tk_numbers])), (a_tk_comeTo, .inl (cZ, 204, .inl tk_comeTo)), (a_tk_any, .inl (cZ, 1224, .inl tk_any)), (a_tk_numbers, .inl (cI, 1224, .inl tk_numbers))]
abbrev r_X7_number : Room := { frames := 7, cells := 1, slots := 6, locals := 105 }
def f_X7_number (x1 : Int32) (x2 : Int32) (x3 : Int32) (t_analysed : Int32) (ta_functionCount : Int32) (ta_lengths : Nat → Int32) (tk_comeTo : Nat → Int32) (tk_any : Nat → Int32) (tk_numbers : Nat → Int32) : Option ((Int32) ⊕ String) := (f_X7_askedPlace x1 x2 x3 t_analysed ta_functionCount ta_lengths).bind (fun o1 => g_cs o1 (fun u2 => (g_rd 204 tk_comeTo u2).bind (fun v3 => if v3 = 0 then some (.inl 0) else (f_X1_hasNumber u2 x3 tk_any).bind (fun o5 => if o5 = 0 then some (.inl 0) else (f_X1_numberOf u2 x3 tk_numbers).bind (fun o7 => some (.inl o7))))))
set_option maxHeartbeats 4000000 in
set_option maxRecDepth 100000 in
theorem k_X7_number (l : Launch) (tA : Nat) (dC : Nat → ClassId) (dI : Nat → Nat → Nat) (cI cZ cJ : ClassId) (hlt : l.stackTraces = false) (a_t : Nat) (a_ta : Nat) (a_ta_lengths : Nat) (a_tk : Nat) (a_tk_comeTo : Nat) (a_tk_any : Nat) (a_tk_numbers : Nat) (a_tb : Nat) (a_tf : Nat) (a_tg : Nat) (a_ty : Nat) (a_th : Nat) (a_ta_parameterCounts : Nat) (a_ta_fields : Nat) (a_ta_entries : Nat) (x1 : Int32) (x2 : Int32) (x3 : Int32) (t_analysed : Int32) (ta_functionCount : Int32) (ta_entryCount : Int32) (ta_lengths : Nat → Int32) (tk_comeTo : Nat → Int32) (tk_any : Nat → Int32) (tk_numbers : Nat → Int32) (out : (Int32) ⊕ String) (hf : f_X7_number x1 x2 x3 t_analysed ta_functionCount ta_lengths tk_comeTo tk_any tk_numbers = some out) : g_MX l yX7_number cX7_number 5 (some .int) r_X7_number tA dC dI cI cZ cJ [.ref a_t, .int x1, .int x2, .int x3] (w_X7_number cI cZ cJ a_t a_ta a_ta_lengths a_tk a_tk_comeTo a_tk_any a_tk_numbers a_tb a_tf a_tg a_ty a_th a_ta_parameterCounts a_ta_fields a_ta_entries t_analysed ta_functionCount ta_entryCount ta_lengths tk_comeTo tk_any tk_numbers) (fun u => w_X7_number cI cZ cJ a_t a_ta a_ta_lengths a_tk a_tk_comeTo a_tk_any a_tk_numbers a_tb a_tf a_tg a_ty a_th a_ta_parameterCounts a_ta_fields a_ta_entries t_analysed ta_functionCount ta_entryCount ta_lengths tk_comeTo tk_any tk_numbers) (fun u => u) out := by
  unfold f_X7_number at hf
  refine ge_x (by decide) (Nat.le_of_ble_eq_true rfl) (fun p e s m below meth c A H locs ls hC hxt hH hW hl => ?_)
  have hC : g_C p s m meth c _ cX7_number 5 (some .int) RX7 := hC
  have hx := hC.1
  have hb := hC.2.1
  have hown := hC.2.2.2.2.1
  have hts := hC.2.2.2.2.2.1
  have hl : lv_has ls 5 [(0, .ref a_t), (1, .int x1), (2, .int x2), (3, .int x3)] := hl
  refine lv_aload_n hx hb dX7_number_0 rfl (lv_at hl 0 rfl) ?_
  refine lv_iload_n hx hb dX7_number_1 rfl (lv_at hl 1 rfl) ?_
  refine lv_iload_n hx hb dX7_number_2 rfl (lv_at hl 2 rfl) ?_
  refine lv_iload_n hx hb dX7_number_3 rfl (lv_at hl 3 rfl) ?_
  obtain ⟨o1, h1, hf⟩ := g_bnd hf
  refine gs_callXi (ws' := fun _ => w_X7_number cI cZ cJ a_t a_ta a_ta_lengths a_tk a_tk_comeTo a_tk_any a_tk_numbers a_tb a_tf a_tg a_ty a_th a_ta_parameterCounts a_ta_fields a_ta_entries t_analysed ta_functionCount ta_entryCount ta_lengths tk_comeTo tk_any tk_numbers) hC hW hH hxt (k_X7_askedPlace l tA dC dI cI cZ cJ hlt a_t a_ta a_ta_lengths a_tb a_tk a_tf a_tg a_ty a_th a_ta_parameterCounts a_ta_fields a_ta_entries x1 x2 x3 t_analysed ta_functionCount ta_entryCount ta_lengths _ h1) hf rfl yk_X7_askedPlace lk_X7_157 iv_X7_askedPlace ⟨rfl, rfl⟩ ⟨Nat.le_of_ble_eq_true rfl, Nat.le_of_ble_eq_true rfl⟩ hl.1 0 rfl rfl [0, 1, 2] [3, 4, 5, 6] [4, 5, 6, 0, 1, 2, 3] rfl rfl rfl rfl (by decide) rfl (fun _ => rfl) rfl rfl rfl (Nat.le_of_ble_eq_true rfl) dX7_number_4 ⟨by decide, by decide⟩ (fun u2 H locs hf hW => ?_)
  refine lv_istore (lv' := [(4, .int u2), (0, .ref a_t), (1, .int x1), (2, .int x2), (3, .int x3)]) hx hb dX7_number_7 hl (by decide) rfl (fun ls hl => ?_)
  refine lv_aload_n hx hb dX7_number_9 rfl (lv_at hl 1 rfl) ?_
  refine gs_get hC hW in_X7 0 2 rfl rfl (by decide) fl_X7_22 rfl dX7_number_10 ?_
  refine gs_get hC hW in_X1 3 0 rfl rfl (by decide) fl_X7_161 rfl dX7_number_13 ?_
  refine lv_iload hx hb dX7_number_16 (lv_at hl 0 rfl) ?_
  obtain ⟨v3, h3, hf⟩ := g_bnd hf
  refine gs_zald hC hW 4 h3 rfl dX7_number_18 ?_
  refine lv_if_eq (tgt := 48) hx hb dX7_number_19 (by decide) (fun c4 => ?_) (fun c4 => ?_)
  · replace hf := (if_pos c4).symm.trans hf
    refine lv_iconst (v := 0) hx hb dX7_number_48 (by decide) ?_
    obtain rfl := Option.some.inj hf
    exact gs_rxi 0 hC hW rfl rfl rfl (by decide) (by decide) dX7_number_49
  · replace hf := (if_neg c4).symm.trans hf
    refine lv_aload_n hx hb dX7_number_22 rfl (lv_at hl 1 rfl) ?_
    refine gs_get hC hW in_X7 0 2 rfl rfl (by decide) fl_X7_22 rfl dX7_number_23 ?_
    refine lv_iload hx hb dX7_number_26 (lv_at hl 0 rfl) ?_
    refine lv_iload_n hx hb dX7_number_28 rfl (lv_at hl 4 rfl) ?_
    obtain ⟨o5, h5, hf⟩ := g_bnd hf
    refine gs_callVi (ws' := w_X7_number cI cZ cJ a_t a_ta a_ta_lengths a_tk a_tk_comeTo a_tk_any a_tk_numbers a_tb a_tf a_tg a_ty a_th a_ta_parameterCounts a_ta_fields a_ta_entries t_analysed ta_functionCount ta_entryCount ta_lengths tk_comeTo tk_any tk_numbers) hC hW (k_X1_hasNumber l tA dC dI cI cZ cJ a_tk a_tk_any a_tk_comeTo a_tk_numbers u2 x3 tk_any _ h5) yk_X1_hasNumber lk_X7_165 iv_X1_hasNumber ⟨rfl, rfl⟩ ⟨Nat.le_of_ble_eq_true rfl, Nat.le_of_ble_eq_true rfl⟩ hl.1 3 rfl rfl [3, 5] [0, 1, 2, 4, 6] [0, 1, 2, 5, 3, 6, 4] rfl rfl rfl rfl (by decide) rfl rfl rfl rfl (Nat.le_of_ble_eq_true rfl) dX7_number_29 ⟨by decide, by decide⟩ (fun H locs hW => ?_)
    refine lv_if_eq (tgt := 48) hx hb dX7_number_32 (by decide) (fun c6 => ?_) (fun c6 => ?_)
    · replace hf := (if_pos c6).symm.trans hf
      refine lv_iconst (v := 0) hx hb dX7_number_48 (by decide) ?_
      obtain rfl := Option.some.inj hf
      exact gs_rxi 0 hC hW rfl rfl rfl (by decide) (by decide) dX7_number_49
    · replace hf := (if_neg c6).symm.trans hf
      refine lv_aload_n hx hb dX7_number_35 rfl (lv_at hl 1 rfl) ?_
      refine gs_get hC hW in_X7 0 2 rfl rfl (by decide) fl_X7_22 rfl dX7_number_36 ?_
      refine lv_iload hx hb dX7_number_39 (lv_at hl 0 rfl) ?_
      refine lv_iload_n hx hb dX7_number_41 rfl (lv_at hl 4 rfl) ?_
      obtain ⟨o7, h7, hf⟩ := g_bnd hf
      refine gs_callVi (ws' := w_X7_number cI cZ cJ a_t a_ta a_ta_lengths a_tk a_tk_comeTo a_tk_any a_tk_numbers a_tb a_tf a_tg a_ty a_th a_ta_parameterCounts a_ta_fields a_ta_entries t_analysed ta_functionCount ta_entryCount ta_lengths tk_comeTo tk_any tk_numbers) hC hW (k_X1_numberOf l tA dC dI cI cZ cJ a_tk a_tk_numbers a_tk_comeTo a_tk_any u2 x3 tk_numbers _ h7) yk_X1_numberOf lk_X7_168 iv_X1_numberOf ⟨rfl, rfl⟩ ⟨Nat.le_of_ble_eq_true rfl, Nat.le_of_ble_eq_true rfl⟩ hl.1 3 rfl rfl [3, 6] [0, 1, 2, 4, 5] [0, 1, 2, 5, 3, 4, 6] rfl rfl rfl rfl (by decide) rfl rfl rfl rfl (Nat.le_of_ble_eq_true rfl) dX7_number_42 ⟨by decide, by decide⟩ (fun H locs hW => ?_)
      refine lv_goto (tgt := 49) hx hb dX7_number_45 (by decide) ?_
      obtain rfl := Option.some.inj hf
      exact gs_rxi o7 hC hW rfl rfl rfl (by decide) (by decide) dX7_number_49

abbrev w_X7_statement (cI cZ cJ : ClassId) (a_t : Nat) (a_ta : Nat) (a_ta_lengths : Nat) (a_ta_fields : Nat) (a_tb : Nat) (a_tk : Nat) (a_tf : Nat) (a_tg : Nat) (a_ty : Nat) (a_th : Nat) (a_ta_parameterCounts : Nat) (a_ta_entries : Nat) (t_analysed : Int32) (ta_functionCount : Int32) (ta_entryCount : Int32) (ta_lengths : Nat → Int32) (ta_fields : Nat → Int32) : va_W := [(a_t, .inr (7, [.ref a_tb, .ref a_ta, .ref a_tk, .ref a_tf, .ref a_tg, .ref a_ty, .ref a_th, .int t_analysed])), (a_ta, .inr (4, [.int ta_functionCount, .int ta_entryCount, .ref a_ta_parameterCounts, .ref a_ta_lengths, .ref a_ta_fields, .ref a_ta_entries])), (a_ta_lengths, .inl (cI, 12, .inl ta_lengths)), (a_ta_fields, .inl (cI, 1152, .inl ta_fields))]
abbrev r_X7_statement : Room := { frames := 6, cells := 1, slots := 6, locals := 82 }
def f_X7_statement (x1 : Int32) (x2 : Int32) (x3 : Int32) (t_analysed : Int32) (ta_functionCount : Int32) (ta_lengths : Nat → Int32) (ta_fields : Nat → Int32) : Option ((Int32) ⊕ String) := if t_analysed = 0 then some (.inr "java/lang/IllegalStateException") else (f_X4_hasFunction x1 ta_functionCount).bind (fun o2 => if o2 = 0 then some (.inr "java/lang/IndexOutOfBoundsException") else if x2 < 0 then some (.inr "java/lang/IndexOutOfBoundsException") else (g_rd 12 ta_lengths x1).bind (fun v5 => if x2 < v5 then if x3 < 0 then some (.inr "java/lang/IllegalArgumentException") else if x3 < 6 then (f_X4_fieldOf x1 x2 x3 ta_fields).bind (fun o9 => some (.inl o9)) else some (.inr "java/lang/IllegalArgumentException") else some (.inr "java/lang/IndexOutOfBoundsException")))
set_option maxHeartbeats 4000000 in
set_option maxRecDepth 100000 in
theorem k_X7_statement (l : Launch) (tA : Nat) (dC : Nat → ClassId) (dI : Nat → Nat → Nat) (cI cZ cJ : ClassId) (hlt : l.stackTraces = false) (a_t : Nat) (a_ta : Nat) (a_ta_lengths : Nat) (a_ta_fields : Nat) (a_tb : Nat) (a_tk : Nat) (a_tf : Nat) (a_tg : Nat) (a_ty : Nat) (a_th : Nat) (a_ta_parameterCounts : Nat) (a_ta_entries : Nat) (x1 : Int32) (x2 : Int32) (x3 : Int32) (t_analysed : Int32) (ta_functionCount : Int32) (ta_entryCount : Int32) (ta_lengths : Nat → Int32) (ta_fields : Nat → Int32) (out : (Int32) ⊕ String) (hf : f_X7_statement x1 x2 x3 t_analysed ta_functionCount ta_lengths ta_fields = some out) : g_MX l yX7_statement cX7_statement 4 (some .int) r_X7_statement tA dC dI cI cZ cJ [.ref a_t, .int x1, .int x2, .int x3] (w_X7_statement cI cZ cJ a_t a_ta a_ta_lengths a_ta_fields a_tb a_tk a_tf a_tg a_ty a_th a_ta_parameterCounts a_ta_entries t_analysed ta_functionCount ta_entryCount ta_lengths ta_fields) (fun u => w_X7_statement cI cZ cJ a_t a_ta a_ta_lengths a_ta_fields a_tb a_tk a_tf a_tg a_ty a_th a_ta_parameterCounts a_ta_entries t_analysed ta_functionCount ta_entryCount ta_lengths ta_fields) (fun u => u) out := by
  unfold f_X7_statement at hf
  refine ge_x (by decide) (Nat.le_of_ble_eq_true rfl) (fun p e s m below meth c A H locs ls hC hxt hH hW hl => ?_)
  have hC : g_C p s m meth c _ cX7_statement 4 (some .int) RX7 := hC
  have hx := hC.1
  have hb := hC.2.1
  have hown := hC.2.2.2.2.1
  have hts := hC.2.2.2.2.2.1
  have hl : lv_has ls 4 [(0, .ref a_t), (1, .int x1), (2, .int x2), (3, .int x3)] := hl
  refine lv_aload_n hx hb dX7_statement_0 rfl (lv_at hl 0 rfl) ?_
  refine gs_get hC hW in_X7 0 7 rfl rfl (by decide) fl_X7_58 rfl dX7_statement_1 ?_
  refine lv_if_ne (tgt := 17) hx hb dX7_statement_4 (by decide) (fun c1 => ?_) (fun c1 => ?_)
  · replace hf := (if_neg c1).symm.trans hf
    refine lv_aload_n hx hb dX7_statement_17 rfl (lv_at hl 0 rfl) ?_
    refine gs_get hC hW in_X7 0 1 rfl rfl (by decide) fl_X7_16 rfl dX7_statement_18 ?_
    refine lv_iload_n hx hb dX7_statement_21 rfl (lv_at hl 1 rfl) ?_
    obtain ⟨o2, h2, hf⟩ := g_bnd hf
    refine gs_callVi (ws' := w_X7_statement cI cZ cJ a_t a_ta a_ta_lengths a_ta_fields a_tb a_tk a_tf a_tg a_ty a_th a_ta_parameterCounts a_ta_entries t_analysed ta_functionCount ta_entryCount ta_lengths ta_fields) hC hW (k_X4_hasFunction l tA dC dI cI cZ cJ a_ta a_ta_parameterCounts a_ta_lengths a_ta_fields a_ta_entries x1 ta_functionCount ta_entryCount _ h2) yk_X4_hasFunction lk_X7_69 iv_X4_hasFunction ⟨rfl, rfl⟩ ⟨Nat.le_of_ble_eq_true rfl, Nat.le_of_ble_eq_true rfl⟩ hl.1 1 rfl rfl [1] [0, 2, 3] [0, 3, 1, 2] rfl rfl rfl rfl (by decide) rfl rfl rfl rfl (Nat.le_of_ble_eq_true rfl) dX7_statement_22 ⟨by decide, by decide⟩ (fun H locs hW => ?_)
    refine lv_if_eq (tgt := 45) hx hb dX7_statement_25 (by decide) (fun c3 => ?_) (fun c3 => ?_)
    · replace hf := (if_pos c3).symm.trans hf
      obtain rfl := Option.some.inj hf
      exact gs_throw (text := "no such function or statement") hC hW hH hlt hxt gE_88 (by decide) rfl rfl hl.1 dX7_statement_45 dX7_statement_48 dX7_statement_49 dX7_statement_51 dX7_statement_54 (by decide) (by decide) (by decide) (by decide)
    · replace hf := (if_neg c3).symm.trans hf
      refine lv_iload_n hx hb dX7_statement_28 rfl (lv_at hl 2 rfl) ?_
      refine lv_if_lt (tgt := 45) hx hb dX7_statement_29 (by decide) (fun c4 => ?_) (fun c4 => ?_)
      · replace hf := (if_pos c4).symm.trans hf
        obtain rfl := Option.some.inj hf
        exact gs_throw (text := "no such function or statement") hC hW hH hlt hxt gE_88 (by decide) rfl rfl hl.1 dX7_statement_45 dX7_statement_48 dX7_statement_49 dX7_statement_51 dX7_statement_54 (by decide) (by decide) (by decide) (by decide)
      · replace hf := (if_neg c4).symm.trans hf
        refine lv_iload_n hx hb dX7_statement_32 rfl (lv_at hl 2 rfl) ?_
        refine lv_aload_n hx hb dX7_statement_33 rfl (lv_at hl 0 rfl) ?_
        refine gs_get hC hW in_X7 0 1 rfl rfl (by decide) fl_X7_16 rfl dX7_statement_34 ?_
        refine gs_get hC hW in_X4 1 3 rfl rfl (by decide) fl_X7_109 rfl dX7_statement_37 ?_
        refine lv_iload_n hx hb dX7_statement_40 rfl (lv_at hl 1 rfl) ?_
        obtain ⟨v5, h5, hf⟩ := g_bnd hf
        refine gs_iald hC hW 2 h5 rfl dX7_statement_41 ?_
        refine lv_icmp_lt (tgt := 55) hx hb dX7_statement_42 (by decide) (fun c6 => ?_) (fun c6 => ?_)
        · replace hf := (if_pos c6).symm.trans hf
          refine lv_iload_n hx hb dX7_statement_55 rfl (lv_at hl 3 rfl) ?_
          refine lv_if_lt (tgt := 65) hx hb dX7_statement_56 (by decide) (fun c7 => ?_) (fun c7 => ?_)
          · replace hf := (if_pos c7).symm.trans hf
            obtain rfl := Option.some.inj hf
            exact gs_throw (text := "a statement has the fields 0 to 5") hC hW hH hlt hxt gE_62 (by decide) rfl rfl hl.1 dX7_statement_65 dX7_statement_68 dX7_statement_69 dX7_statement_71 dX7_statement_74 (by decide) (by decide) (by decide) (by decide)
          · replace hf := (if_neg c7).symm.trans hf
            refine lv_iload_n hx hb dX7_statement_59 rfl (lv_at hl 3 rfl) ?_
            refine lv_bipush (v := 6) hx hb dX7_statement_60 (by decide) ?_
            refine lv_icmp_lt (tgt := 75) hx hb dX7_statement_62 (by decide) (fun c8 => ?_) (fun c8 => ?_)
            · replace hf := (if_pos c8).symm.trans hf
              refine lv_aload_n hx hb dX7_statement_75 rfl (lv_at hl 0 rfl) ?_
              refine gs_get hC hW in_X7 0 1 rfl rfl (by decide) fl_X7_16 rfl dX7_statement_76 ?_
              refine lv_iload_n hx hb dX7_statement_79 rfl (lv_at hl 1 rfl) ?_
              refine lv_iload_n hx hb dX7_statement_80 rfl (lv_at hl 2 rfl) ?_
              refine lv_iload_n hx hb dX7_statement_81 rfl (lv_at hl 3 rfl) ?_
              obtain ⟨o9, h9, hf⟩ := g_bnd hf
              refine gs_callVi (ws' := w_X7_statement cI cZ cJ a_t a_ta a_ta_lengths a_ta_fields a_tb a_tk a_tf a_tg a_ty a_th a_ta_parameterCounts a_ta_entries t_analysed ta_functionCount ta_entryCount ta_lengths ta_fields) hC hW (k_X4_fieldOf l tA dC dI cI cZ cJ a_ta a_ta_fields a_ta_parameterCounts a_ta_lengths a_ta_entries x1 x2 x3 ta_functionCount ta_entryCount ta_fields _ h9) yk_X4_fieldOf lk_X7_178 iv_X4_fieldOf ⟨rfl, rfl⟩ ⟨Nat.le_of_ble_eq_true rfl, Nat.le_of_ble_eq_true rfl⟩ hl.1 1 rfl rfl [1, 3] [0, 2] [0, 2, 1, 3] rfl rfl rfl rfl (by decide) rfl rfl rfl rfl (Nat.le_of_ble_eq_true rfl) dX7_statement_82 ⟨by decide, by decide⟩ (fun H locs hW => ?_)
              obtain rfl := Option.some.inj hf
              exact gs_rxi o9 hC hW rfl rfl rfl (by decide) (by decide) dX7_statement_85
            · replace hf := (if_neg c8).symm.trans hf
              obtain rfl := Option.some.inj hf
              exact gs_throw (text := "a statement has the fields 0 to 5") hC hW hH hlt hxt gE_62 (by decide) rfl rfl hl.1 dX7_statement_65 dX7_statement_68 dX7_statement_69 dX7_statement_71 dX7_statement_74 (by decide) (by decide) (by decide) (by decide)
        · replace hf := (if_neg c6).symm.trans hf
          obtain rfl := Option.some.inj hf
          exact gs_throw (text := "no such function or statement") hC hW hH hlt hxt gE_88 (by decide) rfl rfl hl.1 dX7_statement_45 dX7_statement_48 dX7_statement_49 dX7_statement_51 dX7_statement_54 (by decide) (by decide) (by decide) (by decide)
  · replace hf := (if_pos c1).symm.trans hf
    obtain rfl := Option.some.inj hf
    exact gs_throw (text := "nothing is known") hC hW hH hlt hxt gE_79 (by decide) rfl rfl hl.1 dX7_statement_7 dX7_statement_10 dX7_statement_11 dX7_statement_13 dX7_statement_16 (by decide) (by decide) (by decide) (by decide)

abbrev w_X7_run (cI cZ cJ : ClassId) (a_t : Nat) (a_tb : Nat) (a_tb_parameterCounts : Nat) (a_tb_lengths : Nat) (a_tb_fields : Nat) (a_tb_entries : Nat) (a_ta : Nat) (a_ta_parameterCounts : Nat) (a_ta_lengths : Nat) (a_ta_fields : Nat) (a_ta_entries : Nat) (a_ty : Nat) (a_ty_outputValues : Nat) (a_ty_callCounts : Nat) (a_ty_latestValues : Nat) (a_ty_differing : Nat) (a_th : Nat) (a_th_inputs : Nat) (a_th_openFunctions : Nat) (a_th_openStatements : Nat) (a_th_registers : Nat) (a_tk : Nat) (a_tf : Nat) (a_tg : Nat) (a_old : Nat) (t_analysed : Int32) (tb_functionCount : Int32) (tb_entryCount : Int32) (tb_parameterCounts : Nat → Int32) (tb_lengths : Nat → Int32) (tb_fields : Nat → Int32) (tb_entries : Nat → Int32) (ta_functionCount : Int32) (ta_entryCount : Int32) (ta_parameterCounts : Nat → Int32) (ta_lengths : Nat → Int32) (ta_fields : Nat → Int32) (ta_entries : Nat → Int32) (ty_doneCount : Int32) (ty_outputCount : Int32) (ty_outputValues : Nat → Int32) (ty_callCounts : Nat → Int32) (ty_latestValues : Nat → Int32) (ty_differing : Nat → Int32) (th_inputCount : Int32) (th_inputsRead : Int32) (th_openCount : Int32) (th_inputs : Nat → Int32) (th_openFunctions : Nat → Int32) (th_openStatements : Nat → Int32) (th_registers : Nat → Int32) : va_W := [(a_t, .inr (7, [.ref a_tb, .ref a_ta, .ref a_tk, .ref a_tf, .ref a_tg, .ref a_ty, .ref a_th, .int t_analysed])), (a_tb, .inr (4, [.int tb_functionCount, .int tb_entryCount, .ref a_tb_parameterCounts, .ref a_tb_lengths, .ref a_tb_fields, .ref a_tb_entries])), (a_tb_parameterCounts, .inl (cI, 12, .inl tb_parameterCounts)), (a_tb_lengths, .inl (cI, 12, .inl tb_lengths)), (a_tb_fields, .inl (cI, 1152, .inl tb_fields)), (a_tb_entries, .inl (cI, 4, .inl tb_entries)), (a_ta, .inr (4, [.int ta_functionCount, .int ta_entryCount, .ref a_ta_parameterCounts, .ref a_ta_lengths, .ref a_ta_fields, .ref a_ta_entries])), (a_ta_parameterCounts, .inl (cI, 12, .inl ta_parameterCounts)), (a_ta_lengths, .inl (cI, 12, .inl ta_lengths)), (a_ta_fields, .inl (cI, 1152, .inl ta_fields)), (a_ta_entries, .inl (cI, 4, .inl ta_entries)), (a_ty, .inr (6, [.int ty_doneCount, .int ty_outputCount, .ref a_ty_outputValues, .ref a_ty_callCounts, .ref a_ty_latestValues, .ref a_ty_differing])), (a_ty_outputValues, .inl (cI, 40, .inl ty_outputValues)), (a_ty_callCounts, .inl (cI, 12, .inl ty_callCounts)), (a_ty_latestValues, .inl (cI, 36, .inl ty_latestValues)), (a_ty_differing, .inl (cZ, 36, .inl ty_differing)), (a_th, .inr (2, [.ref a_old, .ref a_ty, .ref a_th_inputs, .int th_inputCount, .int th_inputsRead, .ref a_th_openFunctions, .ref a_th_openStatements, .ref a_th_registers, .int th_openCount])), (a_th_inputs, .inl (cI, 12, .inl th_inputs)), (a_th_openFunctions, .inl (cI, 11, .inl th_openFunctions)), (a_th_openStatements, .inl (cI, 11, .inl th_openStatements)), (a_th_registers, .inl (cI, 66, .inl th_registers))]
abbrev r_X7_run : Room := { frames := 6, cells := 1, slots := 6, locals := 146 }
def f_X7_run_63 (N : Nat) (x1 : Int32) (x2 : Int32) (t_analysed : Int32) (tb_functionCount : Int32) (tb_entryCount : Int32) (tb_parameterCounts : Nat → Int32) (tb_lengths : Nat → Int32) (tb_fields : Nat → Int32) (tb_entries : Nat → Int32) (ta_entryCount : Int32) (ta_parameterCounts : Nat → Int32) (ta_lengths : Nat → Int32) (ta_fields : Nat → Int32) (ta_entries : Nat → Int32) (th_inputCount : Int32) (th_inputs : Nat → Int32) (ty_doneCount : Int32) (ty_outputCount : Int32) (ty_outputValues : Nat → Int32) (ty_callCounts : Nat → Int32) (ty_latestValues : Nat → Int32) (ty_differing : Nat → Int32) (th_inputsRead : Int32) (th_openCount : Int32) (th_openFunctions : Nat → Int32) (th_openStatements : Nat → Int32) (th_registers : Nat → Int32) : Option ((Int32 × Int32 × Int32 × (Nat → Int32) × (Nat → Int32) × (Nat → Int32) × (Nat → Int32) × Int32 × Int32 × (Nat → Int32) × (Nat → Int32) × (Nat → Int32)) ⊕ String) := if x1 = 0 then (f_X2_execute N x2 th_inputCount th_inputsRead th_openCount ty_doneCount ty_outputCount ty_outputValues ty_callCounts ty_latestValues ty_differing th_inputs th_openFunctions th_openStatements th_registers tb_entryCount tb_parameterCounts tb_lengths tb_fields tb_entries).bind (fun o2 => some (.inl (o2.1, o2.2.2.2.1, o2.2.2.2.2.1, o2.2.2.2.2.2.1, o2.2.2.2.2.2.2.1, o2.2.2.2.2.2.2.2.1, o2.2.2.2.2.2.2.2.2.1, o2.2.1, o2.2.2.1, o2.2.2.2.2.2.2.2.2.2.1, o2.2.2.2.2.2.2.2.2.2.2.1, o2.2.2.2.2.2.2.2.2.2.2.2))) else (f_X2_execute N x2 th_inputCount th_inputsRead th_openCount ty_doneCount ty_outputCount ty_outputValues ty_callCounts ty_latestValues ty_differing th_inputs th_openFunctions th_openStatements th_registers ta_entryCount ta_parameterCounts ta_lengths ta_fields ta_entries).bind (fun o3 => some (.inl (o3.1, o3.2.2.2.1, o3.2.2.2.2.1, o3.2.2.2.2.2.1, o3.2.2.2.2.2.2.1, o3.2.2.2.2.2.2.2.1, o3.2.2.2.2.2.2.2.2.1, o3.2.1, o3.2.2.1, o3.2.2.2.2.2.2.2.2.2.1, o3.2.2.2.2.2.2.2.2.2.2.1, o3.2.2.2.2.2.2.2.2.2.2.2)))
set_option maxHeartbeats 4000000 in
set_option maxRecDepth 100000 in
theorem b_X7_run_63 {p : Program} {l : Launch} {e : Env} {s : State} {m : MethodId} {args : Array Value} {below : List Frame} {meth : Method} {c : Code} {tA : Nat} {dC : Nat → ClassId} {dI : Nat → Nat → Nat} {cI cZ cJ : ClassId} {A : Nat → Prop} {a_t : Nat} {a_tb : Nat} {a_tb_parameterCounts : Nat} {a_tb_lengths : Nat} {a_tb_fields : Nat} {a_tb_entries : Nat} {a_ta : Nat} {a_ta_parameterCounts : Nat} {a_ta_lengths : Nat} {a_ta_fields : Nat} {a_ta_entries : Nat} {a_ty : Nat} {a_ty_outputValues : Nat} {a_ty_callCounts : Nat} {a_ty_latestValues : Nat} {a_ty_differing : Nat} {a_th : Nat} {a_th_inputs : Nat} {a_th_openFunctions : Nat} {a_th_openStatements : Nat} {a_th_registers : Nat} {a_tk : Nat} {a_tf : Nat} {a_tg : Nat} {a_old : Nat} {x1 : Int32} {x2 : Int32} {t_analysed : Int32} {tb_functionCount : Int32} {tb_entryCount : Int32} {tb_parameterCounts : Nat → Int32} {tb_lengths : Nat → Int32} {tb_fields : Nat → Int32} {tb_entries : Nat → Int32} {ta_entryCount : Int32} {ta_parameterCounts : Nat → Int32} {ta_lengths : Nat → Int32} {ta_fields : Nat → Int32} {ta_entries : Nat → Int32} {th_inputCount : Int32} {th_inputs : Nat → Int32} {ta_functionCount : Int32} {N : Nat} {ty_doneCount : Int32} {ty_outputCount : Int32} {ty_outputValues : Nat → Int32} {ty_callCounts : Nat → Int32} {ty_latestValues : Nat → Int32} {ty_differing : Nat → Int32} {th_inputsRead : Int32} {th_openCount : Int32} {th_openFunctions : Nat → Int32} {th_openStatements : Nat → Int32} {th_registers : Nat → Int32} {out : (Int32 × Int32 × Int32 × (Nat → Int32) × (Nat → Int32) × (Nat → Int32) × (Nat → Int32) × Int32 × Int32 × (Nat → Int32) × (Nat → Int32) × (Nat → Int32)) ⊕ String} (hC : g_C p s m meth c args cX7_run 3 (some .int) RX7) {ws0 : va_W} (hlt : l.stackTraces = false) (hxt : ∀ x ∈ c.exceptionTable.toList, False) (hH : g_H A s s.heap) (hf : f_X7_run_63 N x1 x2 t_analysed tb_functionCount tb_entryCount tb_parameterCounts tb_lengths tb_fields tb_entries ta_entryCount ta_parameterCounts ta_lengths ta_fields ta_entries th_inputCount th_inputs ty_doneCount ty_outputCount ty_outputValues ty_callCounts ty_latestValues ty_differing th_inputsRead th_openCount th_openFunctions th_openStatements th_registers = some out) {H : Heap} {locs : List Loc} {ls : Array Slot} (hW : g_W tA dC dI cI cZ cJ A s H locs (w_X7_run cI cZ cJ a_t a_tb a_tb_parameterCounts a_tb_lengths a_tb_fields a_tb_entries a_ta a_ta_parameterCounts a_ta_lengths a_ta_fields a_ta_entries a_ty a_ty_outputValues a_ty_callCounts a_ty_latestValues a_ty_differing a_th a_th_inputs a_th_openFunctions a_th_openStatements a_th_registers a_tk a_tf a_tg a_old t_analysed tb_functionCount tb_entryCount tb_parameterCounts tb_lengths tb_fields tb_entries ta_functionCount ta_entryCount ta_parameterCounts ta_lengths ta_fields ta_entries ty_doneCount ty_outputCount ty_outputValues ty_callCounts ty_latestValues ty_differing th_inputCount th_inputsRead th_openCount th_inputs th_openFunctions th_openStatements th_registers)) (hl : lv_has ls 3 [(0, .ref a_t), (1, .int x1), (2, .int x2)]) : W p l e r_X7_run s m args below meth c H locs 0 0 (vx_MQ below (g_Qx dC dI cI cZ cJ A (fun u => w_X7_run cI cZ cJ a_t a_tb a_tb_parameterCounts a_tb_lengths a_tb_fields a_tb_entries a_ta a_ta_parameterCounts a_ta_lengths a_ta_fields a_ta_entries a_ty a_ty_outputValues a_ty_callCounts a_ty_latestValues a_ty_differing a_th a_th_inputs a_th_openFunctions a_th_openStatements a_th_registers a_tk a_tf a_tg (if x1 = 0 then a_tb else a_ta) t_analysed tb_functionCount tb_entryCount tb_parameterCounts tb_lengths tb_fields tb_entries ta_functionCount ta_entryCount ta_parameterCounts ta_lengths ta_fields ta_entries u.2.1 u.2.2.1 u.2.2.2.1 u.2.2.2.2.1 u.2.2.2.2.2.1 u.2.2.2.2.2.2.1 th_inputCount u.2.2.2.2.2.2.2.1 u.2.2.2.2.2.2.2.2.1 th_inputs u.2.2.2.2.2.2.2.2.2.1 u.2.2.2.2.2.2.2.2.2.2.1 u.2.2.2.2.2.2.2.2.2.2.2) (fun u => u.1) out) (g_Xx dC dI cI cZ cJ A ws0 out) args s 1 6 A) (F0 m 63 ls []) := by
  have hx := hC.1
  have hb := hC.2.1
  have hown := hC.2.2.2.2.1
  have hts := hC.2.2.2.2.2.1
  unfold f_X7_run_63 at hf
  refine lv_aload_n hx hb dX7_run_63 rfl (lv_at hl 0 rfl) ?_
  refine gs_get hC hW in_X7 0 6 rfl rfl (by decide) fl_X7_54 rfl dX7_run_64 ?_
  refine lv_iload_n hx hb dX7_run_67 rfl (lv_at hl 1 rfl) ?_
  refine lv_if_eq (tgt := 78) hx hb dX7_run_68 (by decide) (fun c1 => ?_) (fun c1 => ?_)
  · replace hf := (if_pos c1).symm.trans hf
    refine lv_aload_n hx hb dX7_run_78 rfl (lv_at hl 0 rfl) ?_
    refine gs_get hC hW in_X7 0 0 rfl rfl (by decide) fl_X7_12 rfl dX7_run_79 ?_
    refine lv_iload_n hx hb dX7_run_82 rfl (lv_at hl 2 rfl) ?_
    obtain ⟨o2, h2, hf⟩ := g_bnd hf
    refine gs_callVi (ws' := w_X7_run cI cZ cJ a_t a_tb a_tb_parameterCounts a_tb_lengths a_tb_fields a_tb_entries a_ta a_ta_parameterCounts a_ta_lengths a_ta_fields a_ta_entries a_ty a_ty_outputValues a_ty_callCounts a_ty_latestValues a_ty_differing a_th a_th_inputs a_th_openFunctions a_th_openStatements a_th_registers a_tk a_tf a_tg a_tb t_analysed tb_functionCount tb_entryCount tb_parameterCounts tb_lengths tb_fields tb_entries ta_functionCount ta_entryCount ta_parameterCounts ta_lengths ta_fields ta_entries o2.2.2.2.1 o2.2.2.2.2.1 o2.2.2.2.2.2.1 o2.2.2.2.2.2.2.1 o2.2.2.2.2.2.2.2.1 o2.2.2.2.2.2.2.2.2.1 th_inputCount o2.2.1 o2.2.2.1 th_inputs o2.2.2.2.2.2.2.2.2.2.1 o2.2.2.2.2.2.2.2.2.2.2.1 o2.2.2.2.2.2.2.2.2.2.2.2) hC hW (k_X2_execute l tA dC dI cI cZ cJ a_th a_ty a_ty_outputValues a_ty_callCounts a_ty_latestValues a_ty_differing a_th_inputs a_th_openFunctions a_th_openStatements a_th_registers a_tb a_tb_parameterCounts a_tb_lengths a_tb_fields a_tb_entries a_old N x2 th_inputCount th_inputsRead th_openCount ty_doneCount ty_outputCount ty_outputValues ty_callCounts ty_latestValues ty_differing th_inputs th_openFunctions th_openStatements th_registers tb_functionCount tb_entryCount tb_parameterCounts tb_lengths tb_fields tb_entries _ h2) yk_X2_execute lk_X7_185 iv_X2_execute ⟨rfl, rfl⟩ ⟨Nat.le_of_ble_eq_true rfl, Nat.le_of_ble_eq_true rfl⟩ hl.1 16 rfl rfl [16, 11, 12, 13, 14, 15, 17, 18, 19, 20, 1, 2, 3, 4, 5] [0, 6, 7, 8, 9, 10] [0, 16, 17, 18, 19, 20, 1, 2, 3, 4, 5, 7, 8, 9, 10, 11, 6, 12, 13, 14, 15] rfl rfl rfl rfl (by decide) rfl rfl rfl rfl (Nat.le_of_ble_eq_true rfl) dX7_run_83 ⟨by decide, by decide⟩ (fun H locs hW => ?_)
    obtain rfl := Option.some.inj hf
    exact gs_rxi (o2.1, o2.2.2.2.1, o2.2.2.2.2.1, o2.2.2.2.2.2.1, o2.2.2.2.2.2.2.1, o2.2.2.2.2.2.2.2.1, o2.2.2.2.2.2.2.2.2.1, o2.2.1, o2.2.2.1, o2.2.2.2.2.2.2.2.2.2.1, o2.2.2.2.2.2.2.2.2.2.2.1, o2.2.2.2.2.2.2.2.2.2.2.2) hC hW (by first | rw [if_pos (by assumption)] | rw [if_neg (by assumption)]) rfl rfl (by decide) (by decide) dX7_run_86
  · replace hf := (if_neg c1).symm.trans hf
    refine lv_aload_n hx hb dX7_run_71 rfl (lv_at hl 0 rfl) ?_
    refine gs_get hC hW in_X7 0 1 rfl rfl (by decide) fl_X7_16 rfl dX7_run_72 ?_
    refine lv_goto (tgt := 82) hx hb dX7_run_75 (by decide) ?_
    refine lv_iload_n hx hb dX7_run_82 rfl (lv_at hl 2 rfl) ?_
    obtain ⟨o3, h3, hf⟩ := g_bnd hf
    refine gs_callVi (ws' := w_X7_run cI cZ cJ a_t a_tb a_tb_parameterCounts a_tb_lengths a_tb_fields a_tb_entries a_ta a_ta_parameterCounts a_ta_lengths a_ta_fields a_ta_entries a_ty a_ty_outputValues a_ty_callCounts a_ty_latestValues a_ty_differing a_th a_th_inputs a_th_openFunctions a_th_openStatements a_th_registers a_tk a_tf a_tg a_ta t_analysed tb_functionCount tb_entryCount tb_parameterCounts tb_lengths tb_fields tb_entries ta_functionCount ta_entryCount ta_parameterCounts ta_lengths ta_fields ta_entries o3.2.2.2.1 o3.2.2.2.2.1 o3.2.2.2.2.2.1 o3.2.2.2.2.2.2.1 o3.2.2.2.2.2.2.2.1 o3.2.2.2.2.2.2.2.2.1 th_inputCount o3.2.1 o3.2.2.1 th_inputs o3.2.2.2.2.2.2.2.2.2.1 o3.2.2.2.2.2.2.2.2.2.2.1 o3.2.2.2.2.2.2.2.2.2.2.2) hC hW (k_X2_execute l tA dC dI cI cZ cJ a_th a_ty a_ty_outputValues a_ty_callCounts a_ty_latestValues a_ty_differing a_th_inputs a_th_openFunctions a_th_openStatements a_th_registers a_ta a_ta_parameterCounts a_ta_lengths a_ta_fields a_ta_entries a_old N x2 th_inputCount th_inputsRead th_openCount ty_doneCount ty_outputCount ty_outputValues ty_callCounts ty_latestValues ty_differing th_inputs th_openFunctions th_openStatements th_registers ta_functionCount ta_entryCount ta_parameterCounts ta_lengths ta_fields ta_entries _ h3) yk_X2_execute lk_X7_185 iv_X2_execute ⟨rfl, rfl⟩ ⟨Nat.le_of_ble_eq_true rfl, Nat.le_of_ble_eq_true rfl⟩ hl.1 16 rfl rfl [16, 11, 12, 13, 14, 15, 17, 18, 19, 20, 6, 7, 8, 9, 10] [0, 1, 2, 3, 4, 5] [0, 1, 2, 3, 4, 5, 16, 17, 18, 19, 20, 7, 8, 9, 10, 11, 6, 12, 13, 14, 15] rfl rfl rfl rfl (by decide) rfl rfl rfl rfl (Nat.le_of_ble_eq_true rfl) dX7_run_83 ⟨by decide, by decide⟩ (fun H locs hW => ?_)
    obtain rfl := Option.some.inj hf
    exact gs_rxi (o3.1, o3.2.2.2.1, o3.2.2.2.2.1, o3.2.2.2.2.2.1, o3.2.2.2.2.2.2.1, o3.2.2.2.2.2.2.2.1, o3.2.2.2.2.2.2.2.2.1, o3.2.1, o3.2.2.1, o3.2.2.2.2.2.2.2.2.2.1, o3.2.2.2.2.2.2.2.2.2.2.1, o3.2.2.2.2.2.2.2.2.2.2.2) hC hW (by first | rw [if_pos (by assumption)] | rw [if_neg (by assumption)]) rfl rfl (by decide) (by decide) dX7_run_86
def f_X7_run (N : Nat) (x1 : Int32) (x2 : Int32) (t_analysed : Int32) (tb_functionCount : Int32) (tb_entryCount : Int32) (tb_parameterCounts : Nat → Int32) (tb_lengths : Nat → Int32) (tb_fields : Nat → Int32) (tb_entries : Nat → Int32) (ta_entryCount : Int32) (ta_parameterCounts : Nat → Int32) (ta_lengths : Nat → Int32) (ta_fields : Nat → Int32) (ta_entries : Nat → Int32) (ty_doneCount : Int32) (ty_outputCount : Int32) (ty_outputValues : Nat → Int32) (ty_callCounts : Nat → Int32) (ty_latestValues : Nat → Int32) (ty_differing : Nat → Int32) (th_inputCount : Int32) (th_inputsRead : Int32) (th_openCount : Int32) (th_inputs : Nat → Int32) (th_openFunctions : Nat → Int32) (th_openStatements : Nat → Int32) (th_registers : Nat → Int32) : Option ((Int32 × Int32 × Int32 × (Nat → Int32) × (Nat → Int32) × (Nat → Int32) × (Nat → Int32) × Int32 × Int32 × (Nat → Int32) × (Nat → Int32) × (Nat → Int32)) ⊕ String) := if x2 < 0 then some (.inr "java/lang/IllegalArgumentException") else if x2 ≤ 3000 then (f_X4_hasFunction 0 tb_functionCount).bind (fun o6 => if o6 = 0 then some (.inr "java/lang/IllegalStateException") else if x1 = 0 then f_X7_run_63 N x1 x2 t_analysed tb_functionCount tb_entryCount tb_parameterCounts tb_lengths tb_fields tb_entries ta_entryCount ta_parameterCounts ta_lengths ta_fields ta_entries th_inputCount th_inputs ty_doneCount ty_outputCount ty_outputValues ty_callCounts ty_latestValues ty_differing th_inputsRead th_openCount th_openFunctions th_openStatements th_registers else if t_analysed = 0 then some (.inr "java/lang/IllegalStateException") else f_X7_run_63 N x1 x2 t_analysed tb_functionCount tb_entryCount tb_parameterCounts tb_lengths tb_fields tb_entries ta_entryCount ta_parameterCounts ta_lengths ta_fields ta_entries th_inputCount th_inputs ty_doneCount ty_outputCount ty_outputValues ty_callCounts ty_latestValues ty_differing th_inputsRead th_openCount th_openFunctions th_openStatements th_registers) else some (.inr "java/lang/IllegalArgumentException")
set_option maxHeartbeats 4000000 in
set_option maxRecDepth 100000 in
theorem k_X7_run (l : Launch) (tA : Nat) (dC : Nat → ClassId) (dI : Nat → Nat → Nat) (cI cZ cJ : ClassId) (hlt : l.stackTraces = false) (a_t : Nat) (a_tb : Nat) (a_tb_parameterCounts : Nat) (a_tb_lengths : Nat) (a_tb_fields : Nat) (a_tb_entries : Nat) (a_ta : Nat) (a_ta_parameterCounts : Nat) (a_ta_lengths : Nat) (a_ta_fields : Nat) (a_ta_entries : Nat) (a_ty : Nat) (a_ty_outputValues : Nat) (a_ty_callCounts : Nat) (a_ty_latestValues : Nat) (a_ty_differing : Nat) (a_th : Nat) (a_th_inputs : Nat) (a_th_openFunctions : Nat) (a_th_openStatements : Nat) (a_th_registers : Nat) (a_tk : Nat) (a_tf : Nat) (a_tg : Nat) (a_old : Nat) (N : Nat) (x1 : Int32) (x2 : Int32) (t_analysed : Int32) (tb_functionCount : Int32) (tb_entryCount : Int32) (tb_parameterCounts : Nat → Int32) (tb_lengths : Nat → Int32) (tb_fields : Nat → Int32) (tb_entries : Nat → Int32) (ta_functionCount : Int32) (ta_entryCount : Int32) (ta_parameterCounts : Nat → Int32) (ta_lengths : Nat → Int32) (ta_fields : Nat → Int32) (ta_entries : Nat → Int32) (ty_doneCount : Int32) (ty_outputCount : Int32) (ty_outputValues : Nat → Int32) (ty_callCounts : Nat → Int32) (ty_latestValues : Nat → Int32) (ty_differing : Nat → Int32) (th_inputCount : Int32) (th_inputsRead : Int32) (th_openCount : Int32) (th_inputs : Nat → Int32) (th_openFunctions : Nat → Int32) (th_openStatements : Nat → Int32) (th_registers : Nat → Int32) (out : (Int32 × Int32 × Int32 × (Nat → Int32) × (Nat → Int32) × (Nat → Int32) × (Nat → Int32) × Int32 × Int32 × (Nat → Int32) × (Nat → Int32) × (Nat → Int32)) ⊕ String) (hf : f_X7_run N x1 x2 t_analysed tb_functionCount tb_entryCount tb_parameterCounts tb_lengths tb_fields tb_entries ta_entryCount ta_parameterCounts ta_lengths ta_fields ta_entries ty_doneCount ty_outputCount ty_outputValues ty_callCounts ty_latestValues ty_differing th_inputCount th_inputsRead th_openCount th_inputs th_openFunctions th_openStatements th_registers = some out) : g_MX l yX7_run cX7_run 3 (some .int) r_X7_run tA dC dI cI cZ cJ [.ref a_t, .int x1, .int x2] (w_X7_run cI cZ cJ a_t a_tb a_tb_parameterCounts a_tb_lengths a_tb_fields a_tb_entries a_ta a_ta_parameterCounts a_ta_lengths a_ta_fields a_ta_entries a_ty a_ty_outputValues a_ty_callCounts a_ty_latestValues a_ty_differing a_th a_th_inputs a_th_openFunctions a_th_openStatements a_th_registers a_tk a_tf a_tg a_old t_analysed tb_functionCount tb_entryCount tb_parameterCounts tb_lengths tb_fields tb_entries ta_functionCount ta_entryCount ta_parameterCounts ta_lengths ta_fields ta_entries ty_doneCount ty_outputCount ty_outputValues ty_callCounts ty_latestValues ty_differing th_inputCount th_inputsRead th_openCount th_inputs th_openFunctions th_openStatements th_registers) (fun u => w_X7_run cI cZ cJ a_t a_tb a_tb_parameterCounts a_tb_lengths a_tb_fields a_tb_entries a_ta a_ta_parameterCounts a_ta_lengths a_ta_fields a_ta_entries a_ty a_ty_outputValues a_ty_callCounts a_ty_latestValues a_ty_differing a_th a_th_inputs a_th_openFunctions a_th_openStatements a_th_registers a_tk a_tf a_tg (if x1 = 0 then a_tb else a_ta) t_analysed tb_functionCount tb_entryCount tb_parameterCounts tb_lengths tb_fields tb_entries ta_functionCount ta_entryCount ta_parameterCounts ta_lengths ta_fields ta_entries u.2.1 u.2.2.1 u.2.2.2.1 u.2.2.2.2.1 u.2.2.2.2.2.1 u.2.2.2.2.2.2.1 th_inputCount u.2.2.2.2.2.2.2.1 u.2.2.2.2.2.2.2.2.1 th_inputs u.2.2.2.2.2.2.2.2.2.1 u.2.2.2.2.2.2.2.2.2.2.1 u.2.2.2.2.2.2.2.2.2.2.2) (fun u => u.1) out := by
  unfold f_X7_run at hf
  refine ge_x (by decide) (Nat.le_of_ble_eq_true rfl) (fun p e s m below meth c A H locs ls hC hxt hH hW hl => ?_)
  have hC : g_C p s m meth c _ cX7_run 3 (some .int) RX7 := hC
  have hx := hC.1
  have hb := hC.2.1
  have hown := hC.2.2.2.2.1
  have hts := hC.2.2.2.2.2.1
  have hl : lv_has ls 3 [(0, .ref a_t), (1, .int x1), (2, .int x2)] := hl
  refine lv_iload_n hx hb dX7_run_0 rfl (lv_at hl 2 rfl) ?_
  refine lv_if_lt (tgt := 11) hx hb dX7_run_1 (by decide) (fun c4 => ?_) (fun c4 => ?_)
  · replace hf := (if_pos c4).symm.trans hf
    obtain rfl := Option.some.inj hf
    exact gs_throw (text := "0 to 3000 statements may be run") hC hW hH hlt hxt gE_62 (by decide) rfl rfl hl.1 dX7_run_11 dX7_run_14 dX7_run_15 dX7_run_17 dX7_run_20 (by decide) (by decide) (by decide) (by decide)
  · replace hf := (if_neg c4).symm.trans hf
    refine lv_iload_n hx hb dX7_run_4 rfl (lv_at hl 2 rfl) ?_
    refine lv_sipush (v := 3000) hx hb dX7_run_5 (by decide) ?_
    refine lv_icmp_le (tgt := 21) hx hb dX7_run_8 (by decide) (fun c5 => ?_) (fun c5 => ?_)
    · replace hf := (if_pos c5).symm.trans hf
      refine lv_aload_n hx hb dX7_run_21 rfl (lv_at hl 0 rfl) ?_
      refine gs_get hC hW in_X7 0 0 rfl rfl (by decide) fl_X7_12 rfl dX7_run_22 ?_
      refine lv_iconst (v := 0) hx hb dX7_run_25 (by decide) ?_
      obtain ⟨o6, h6, hf⟩ := g_bnd hf
      refine gs_callVi (ws' := w_X7_run cI cZ cJ a_t a_tb a_tb_parameterCounts a_tb_lengths a_tb_fields a_tb_entries a_ta a_ta_parameterCounts a_ta_lengths a_ta_fields a_ta_entries a_ty a_ty_outputValues a_ty_callCounts a_ty_latestValues a_ty_differing a_th a_th_inputs a_th_openFunctions a_th_openStatements a_th_registers a_tk a_tf a_tg a_old t_analysed tb_functionCount tb_entryCount tb_parameterCounts tb_lengths tb_fields tb_entries ta_functionCount ta_entryCount ta_parameterCounts ta_lengths ta_fields ta_entries ty_doneCount ty_outputCount ty_outputValues ty_callCounts ty_latestValues ty_differing th_inputCount th_inputsRead th_openCount th_inputs th_openFunctions th_openStatements th_registers) hC hW (k_X4_hasFunction l tA dC dI cI cZ cJ a_tb a_tb_parameterCounts a_tb_lengths a_tb_fields a_tb_entries 0 tb_functionCount tb_entryCount _ h6) yk_X4_hasFunction lk_X7_69 iv_X4_hasFunction ⟨rfl, rfl⟩ ⟨Nat.le_of_ble_eq_true rfl, Nat.le_of_ble_eq_true rfl⟩ hl.1 1 rfl rfl [1] [0, 2, 3, 4, 5, 6, 7, 8, 9, 10, 11, 12, 13, 14, 15, 16, 17, 18, 19, 20] [0, 20, 1, 2, 3, 4, 5, 6, 7, 8, 9, 10, 11, 12, 13, 14, 15, 16, 17, 18, 19] rfl rfl rfl rfl (by decide) rfl rfl rfl rfl (Nat.le_of_ble_eq_true rfl) dX7_run_26 ⟨by decide, by decide⟩ (fun H locs hW => ?_)
      refine lv_if_ne (tgt := 42) hx hb dX7_run_29 (by decide) (fun c7 => ?_) (fun c7 => ?_)
      · replace hf := (if_neg c7).symm.trans hf
        refine lv_iload_n hx hb dX7_run_42 rfl (lv_at hl 1 rfl) ?_
        refine lv_if_eq (tgt := 63) hx hb dX7_run_43 (by decide) (fun c8 => ?_) (fun c8 => ?_)
        · replace hf := (if_pos c8).symm.trans hf
          exact b_X7_run_63 hC hlt hxt hH hf hW (lv_sub hl [0, 1, 2] rfl)
        · replace hf := (if_neg c8).symm.trans hf
          refine lv_aload_n hx hb dX7_run_46 rfl (lv_at hl 0 rfl) ?_
          refine gs_get hC hW in_X7 0 7 rfl rfl (by decide) fl_X7_58 rfl dX7_run_47 ?_
          refine lv_if_ne (tgt := 63) hx hb dX7_run_50 (by decide) (fun c9 => ?_) (fun c9 => ?_)
          · replace hf := (if_neg c9).symm.trans hf
            exact b_X7_run_63 hC hlt hxt hH hf hW (lv_sub hl [0, 1, 2] rfl)
          · replace hf := (if_pos c9).symm.trans hf
            obtain rfl := Option.some.inj hf
            exact gs_throw (text := "there is no new program") hC hW hH hlt hxt gE_79 (by decide) rfl rfl hl.1 dX7_run_53 dX7_run_56 dX7_run_57 dX7_run_59 dX7_run_62 (by decide) (by decide) (by decide) (by decide)
      · replace hf := (if_pos c7).symm.trans hf
        obtain rfl := Option.some.inj hf
        exact gs_throw (text := "there is no main") hC hW hH hlt hxt gE_79 (by decide) rfl rfl hl.1 dX7_run_32 dX7_run_35 dX7_run_36 dX7_run_38 dX7_run_41 (by decide) (by decide) (by decide) (by decide)
    · replace hf := (if_neg c5).symm.trans hf
      obtain rfl := Option.some.inj hf
      exact gs_throw (text := "0 to 3000 statements may be run") hC hW hH hlt hxt gE_62 (by decide) rfl rfl hl.1 dX7_run_11 dX7_run_14 dX7_run_15 dX7_run_17 dX7_run_20 (by decide) (by decide) (by decide) (by decide)

abbrev w_X7_output (cI cZ cJ : ClassId) (a_t : Nat) (a_ty : Nat) (a_ty_outputValues : Nat) (a_tb : Nat) (a_ta : Nat) (a_tk : Nat) (a_tf : Nat) (a_tg : Nat) (a_th : Nat) (a_ty_callCounts : Nat) (a_ty_latestValues : Nat) (a_ty_differing : Nat) (t_analysed : Int32) (ty_doneCount : Int32) (ty_outputCount : Int32) (ty_outputValues : Nat → Int32) : va_W := [(a_t, .inr (7, [.ref a_tb, .ref a_ta, .ref a_tk, .ref a_tf, .ref a_tg, .ref a_ty, .ref a_th, .int t_analysed])), (a_ty, .inr (6, [.int ty_doneCount, .int ty_outputCount, .ref a_ty_outputValues, .ref a_ty_callCounts, .ref a_ty_latestValues, .ref a_ty_differing])), (a_ty_outputValues, .inl (cI, 40, .inl ty_outputValues))]
abbrev r_X7_output : Room := { frames := 6, cells := 1, slots := 6, locals := 82 }
def f_X7_output (x1 : Int32) (ty_outputCount : Int32) (ty_outputValues : Nat → Int32) : Option ((Int32) ⊕ String) := if x1 < 0 then some (.inr "java/lang/IndexOutOfBoundsException") else if x1 < ty_outputCount then (g_rd 40 ty_outputValues x1).bind (fun v3 => some (.inl v3)) else some (.inr "java/lang/IndexOutOfBoundsException")
set_option maxHeartbeats 4000000 in
set_option maxRecDepth 100000 in
theorem k_X7_output (l : Launch) (tA : Nat) (dC : Nat → ClassId) (dI : Nat → Nat → Nat) (cI cZ cJ : ClassId) (hlt : l.stackTraces = false) (a_t : Nat) (a_ty : Nat) (a_ty_outputValues : Nat) (a_tb : Nat) (a_ta : Nat) (a_tk : Nat) (a_tf : Nat) (a_tg : Nat) (a_th : Nat) (a_ty_callCounts : Nat) (a_ty_latestValues : Nat) (a_ty_differing : Nat) (x1 : Int32) (t_analysed : Int32) (ty_doneCount : Int32) (ty_outputCount : Int32) (ty_outputValues : Nat → Int32) (out : (Int32) ⊕ String) (hf : f_X7_output x1 ty_outputCount ty_outputValues = some out) : g_MX l yX7_output cX7_output 2 (some .int) r_X7_output tA dC dI cI cZ cJ [.ref a_t, .int x1] (w_X7_output cI cZ cJ a_t a_ty a_ty_outputValues a_tb a_ta a_tk a_tf a_tg a_th a_ty_callCounts a_ty_latestValues a_ty_differing t_analysed ty_doneCount ty_outputCount ty_outputValues) (fun u => w_X7_output cI cZ cJ a_t a_ty a_ty_outputValues a_tb a_ta a_tk a_tf a_tg a_th a_ty_callCounts a_ty_latestValues a_ty_differing t_analysed ty_doneCount ty_outputCount ty_outputValues) (fun u => u) out := by
  unfold f_X7_output at hf
  refine ge_x (by decide) (Nat.le_of_ble_eq_true rfl) (fun p e s m below meth c A H locs ls hC hxt hH hW hl => ?_)
  have hC : g_C p s m meth c _ cX7_output 2 (some .int) RX7 := hC
  have hx := hC.1
  have hb := hC.2.1
  have hown := hC.2.2.2.2.1
  have hts := hC.2.2.2.2.2.1
  have hl : lv_has ls 2 [(0, .ref a_t), (1, .int x1)] := hl
  refine lv_iload_n hx hb dX7_output_0 rfl (lv_at hl 1 rfl) ?_
  refine lv_if_lt (tgt := 15) hx hb dX7_output_1 (by decide) (fun c1 => ?_) (fun c1 => ?_)
  · replace hf := (if_pos c1).symm.trans hf
    obtain rfl := Option.some.inj hf
    exact gs_throw (text := "no such output") hC hW hH hlt hxt gE_88 (by decide) rfl rfl hl.1 dX7_output_15 dX7_output_18 dX7_output_19 dX7_output_21 dX7_output_24 (by decide) (by decide) (by decide) (by decide)
  · replace hf := (if_neg c1).symm.trans hf
    refine lv_iload_n hx hb dX7_output_4 rfl (lv_at hl 1 rfl) ?_
    refine lv_aload_n hx hb dX7_output_5 rfl (lv_at hl 0 rfl) ?_
    refine gs_get hC hW in_X7 0 5 rfl rfl (by decide) fl_X7_45 rfl dX7_output_6 ?_
    refine gs_get hC hW in_X6 1 1 rfl rfl (by decide) fl_X7_192 rfl dX7_output_9 ?_
    refine lv_icmp_lt (tgt := 25) hx hb dX7_output_12 (by decide) (fun c2 => ?_) (fun c2 => ?_)
    · replace hf := (if_pos c2).symm.trans hf
      refine lv_aload_n hx hb dX7_output_25 rfl (lv_at hl 0 rfl) ?_
      refine gs_get hC hW in_X7 0 5 rfl rfl (by decide) fl_X7_45 rfl dX7_output_26 ?_
      refine gs_get hC hW in_X6 1 2 rfl rfl (by decide) fl_X7_197 rfl dX7_output_29 ?_
      refine lv_iload_n hx hb dX7_output_32 rfl (lv_at hl 1 rfl) ?_
      obtain ⟨v3, h3, hf⟩ := g_bnd hf
      refine gs_iald hC hW 2 h3 rfl dX7_output_33 ?_
      obtain rfl := Option.some.inj hf
      exact gs_rxi v3 hC hW rfl rfl rfl (by decide) (by decide) dX7_output_34
    · replace hf := (if_neg c2).symm.trans hf
      obtain rfl := Option.some.inj hf
      exact gs_throw (text := "no such output") hC hW hH hlt hxt gE_88 (by decide) rfl rfl hl.1 dX7_output_15 dX7_output_18 dX7_output_19 dX7_output_21 dX7_output_24 (by decide) (by decide) (by decide) (by decide)

abbrev w_X7_calls (cI cZ cJ : ClassId) (a_t : Nat) (a_ty : Nat) (a_ty_callCounts : Nat) (a_tb : Nat) (a_ta : Nat) (a_tk : Nat) (a_tf : Nat) (a_tg : Nat) (a_th : Nat) (a_ty_outputValues : Nat) (a_ty_latestValues : Nat) (a_ty_differing : Nat) (t_analysed : Int32) (ty_doneCount : Int32) (ty_outputCount : Int32) (ty_callCounts : Nat → Int32) : va_W := [(a_t, .inr (7, [.ref a_tb, .ref a_ta, .ref a_tk, .ref a_tf, .ref a_tg, .ref a_ty, .ref a_th, .int t_analysed])), (a_ty, .inr (6, [.int ty_doneCount, .int ty_outputCount, .ref a_ty_outputValues, .ref a_ty_callCounts, .ref a_ty_latestValues, .ref a_ty_differing])), (a_ty_callCounts, .inl (cI, 12, .inl ty_callCounts))]
abbrev r_X7_calls : Room := { frames := 6, cells := 1, slots := 6, locals := 82 }
def f_X7_calls (x1 : Int32) (ty_callCounts : Nat → Int32) : Option ((Int32) ⊕ String) := if x1 < 0 then some (.inr "java/lang/IndexOutOfBoundsException") else if x1 < 12 then (g_rd 12 ty_callCounts x1).bind (fun v3 => some (.inl v3)) else some (.inr "java/lang/IndexOutOfBoundsException")
set_option maxHeartbeats 4000000 in
set_option maxRecDepth 100000 in
theorem k_X7_calls (l : Launch) (tA : Nat) (dC : Nat → ClassId) (dI : Nat → Nat → Nat) (cI cZ cJ : ClassId) (hlt : l.stackTraces = false) (a_t : Nat) (a_ty : Nat) (a_ty_callCounts : Nat) (a_tb : Nat) (a_ta : Nat) (a_tk : Nat) (a_tf : Nat) (a_tg : Nat) (a_th : Nat) (a_ty_outputValues : Nat) (a_ty_latestValues : Nat) (a_ty_differing : Nat) (x1 : Int32) (t_analysed : Int32) (ty_doneCount : Int32) (ty_outputCount : Int32) (ty_callCounts : Nat → Int32) (out : (Int32) ⊕ String) (hf : f_X7_calls x1 ty_callCounts = some out) : g_MX l yX7_calls cX7_calls 2 (some .int) r_X7_calls tA dC dI cI cZ cJ [.ref a_t, .int x1] (w_X7_calls cI cZ cJ a_t a_ty a_ty_callCounts a_tb a_ta a_tk a_tf a_tg a_th a_ty_outputValues a_ty_latestValues a_ty_differing t_analysed ty_doneCount ty_outputCount ty_callCounts) (fun u => w_X7_calls cI cZ cJ a_t a_ty a_ty_callCounts a_tb a_ta a_tk a_tf a_tg a_th a_ty_outputValues a_ty_latestValues a_ty_differing t_analysed ty_doneCount ty_outputCount ty_callCounts) (fun u => u) out := by
  unfold f_X7_calls at hf
  refine ge_x (by decide) (Nat.le_of_ble_eq_true rfl) (fun p e s m below meth c A H locs ls hC hxt hH hW hl => ?_)
  have hC : g_C p s m meth c _ cX7_calls 2 (some .int) RX7 := hC
  have hx := hC.1
  have hb := hC.2.1
  have hown := hC.2.2.2.2.1
  have hts := hC.2.2.2.2.2.1
  have hl : lv_has ls 2 [(0, .ref a_t), (1, .int x1)] := hl
  refine lv_iload_n hx hb dX7_calls_0 rfl (lv_at hl 1 rfl) ?_
  refine lv_if_lt (tgt := 10) hx hb dX7_calls_1 (by decide) (fun c1 => ?_) (fun c1 => ?_)
  · replace hf := (if_pos c1).symm.trans hf
    obtain rfl := Option.some.inj hf
    exact gs_throw (text := "functions are 0 to 11") hC hW hH hlt hxt gE_88 (by decide) rfl rfl hl.1 dX7_calls_10 dX7_calls_13 dX7_calls_14 dX7_calls_16 dX7_calls_19 (by decide) (by decide) (by decide) (by decide)
  · replace hf := (if_neg c1).symm.trans hf
    refine lv_iload_n hx hb dX7_calls_4 rfl (lv_at hl 1 rfl) ?_
    refine lv_bipush (v := 12) hx hb dX7_calls_5 (by decide) ?_
    refine lv_icmp_lt (tgt := 20) hx hb dX7_calls_7 (by decide) (fun c2 => ?_) (fun c2 => ?_)
    · replace hf := (if_pos c2).symm.trans hf
      refine lv_aload_n hx hb dX7_calls_20 rfl (lv_at hl 0 rfl) ?_
      refine gs_get hC hW in_X7 0 5 rfl rfl (by decide) fl_X7_45 rfl dX7_calls_21 ?_
      refine gs_get hC hW in_X6 1 3 rfl rfl (by decide) fl_X7_202 rfl dX7_calls_24 ?_
      refine lv_iload_n hx hb dX7_calls_27 rfl (lv_at hl 1 rfl) ?_
      obtain ⟨v3, h3, hf⟩ := g_bnd hf
      refine gs_iald hC hW 2 h3 rfl dX7_calls_28 ?_
      obtain rfl := Option.some.inj hf
      exact gs_rxi v3 hC hW rfl rfl rfl (by decide) (by decide) dX7_calls_29
    · replace hf := (if_neg c2).symm.trans hf
      obtain rfl := Option.some.inj hf
      exact gs_throw (text := "functions are 0 to 11") hC hW hH hlt hxt gE_88 (by decide) rfl rfl hl.1 dX7_calls_10 dX7_calls_13 dX7_calls_14 dX7_calls_16 dX7_calls_19 (by decide) (by decide) (by decide) (by decide)

abbrev w_X7_same (cI cZ cJ : ClassId) (a_t : Nat) (a_ty : Nat) (a_ty_callCounts : Nat) (a_ty_differing : Nat) (a_tb : Nat) (a_ta : Nat) (a_tk : Nat) (a_tf : Nat) (a_tg : Nat) (a_th : Nat) (a_ty_outputValues : Nat) (a_ty_latestValues : Nat) (t_analysed : Int32) (ty_doneCount : Int32) (ty_outputCount : Int32) (ty_callCounts : Nat → Int32) (ty_differing : Nat → Int32) : va_W := [(a_t, .inr (7, [.ref a_tb, .ref a_ta, .ref a_tk, .ref a_tf, .ref a_tg, .ref a_ty, .ref a_th, .int t_analysed])), (a_ty, .inr (6, [.int ty_doneCount, .int ty_outputCount, .ref a_ty_outputValues, .ref a_ty_callCounts, .ref a_ty_latestValues, .ref a_ty_differing])), (a_ty_callCounts, .inl (cI, 12, .inl ty_callCounts)), (a_ty_differing, .inl (cZ, 36, .inl ty_differing))]
abbrev r_X7_same : Room := { frames := 6, cells := 1, slots := 6, locals := 82 }
def f_X7_same (x1 : Int32) (x2 : Int32) (ty_callCounts : Nat → Int32) (ty_differing : Nat → Int32) : Option ((Int32) ⊕ String) := (f_X7_isTallied x1 x2).bind (fun o1 => if o1 = 0 then some (.inr "java/lang/IndexOutOfBoundsException") else (g_rd 12 ty_callCounts x1).bind (fun v3 => if v3 ≤ 0 then some (.inl 0) else (g_rd 36 ty_differing ((x1 * 3) + x2)).bind (fun v5 => if v5 = 0 then some (.inl 1) else some (.inl 0))))
set_option maxHeartbeats 4000000 in
set_option maxRecDepth 100000 in
theorem k_X7_same (l : Launch) (tA : Nat) (dC : Nat → ClassId) (dI : Nat → Nat → Nat) (cI cZ cJ : ClassId) (hlt : l.stackTraces = false) (a_t : Nat) (a_ty : Nat) (a_ty_callCounts : Nat) (a_ty_differing : Nat) (a_tb : Nat) (a_ta : Nat) (a_tk : Nat) (a_tf : Nat) (a_tg : Nat) (a_th : Nat) (a_ty_outputValues : Nat) (a_ty_latestValues : Nat) (x1 : Int32) (x2 : Int32) (t_analysed : Int32) (ty_doneCount : Int32) (ty_outputCount : Int32) (ty_callCounts : Nat → Int32) (ty_differing : Nat → Int32) (out : (Int32) ⊕ String) (hf : f_X7_same x1 x2 ty_callCounts ty_differing = some out) : g_MX l yX7_same cX7_same 3 (some .boolean) r_X7_same tA dC dI cI cZ cJ [.ref a_t, .int x1, .int x2] (w_X7_same cI cZ cJ a_t a_ty a_ty_callCounts a_ty_differing a_tb a_ta a_tk a_tf a_tg a_th a_ty_outputValues a_ty_latestValues t_analysed ty_doneCount ty_outputCount ty_callCounts ty_differing) (fun u => w_X7_same cI cZ cJ a_t a_ty a_ty_callCounts a_ty_differing a_tb a_ta a_tk a_tf a_tg a_th a_ty_outputValues a_ty_latestValues t_analysed ty_doneCount ty_outputCount ty_callCounts ty_differing) (fun u => u) out := by
  unfold f_X7_same at hf
  refine ge_x (by decide) (Nat.le_of_ble_eq_true rfl) (fun p e s m below meth c A H locs ls hC hxt hH hW hl => ?_)
  have hC : g_C p s m meth c _ cX7_same 3 (some .boolean) RX7 := hC
  have hx := hC.1
  have hb := hC.2.1
  have hown := hC.2.2.2.2.1
  have hts := hC.2.2.2.2.2.1
  have hl : lv_has ls 3 [(0, .ref a_t), (1, .int x1), (2, .int x2)] := hl
  refine lv_iload_n hx hb dX7_same_0 rfl (lv_at hl 1 rfl) ?_
  refine lv_iload_n hx hb dX7_same_1 rfl (lv_at hl 2 rfl) ?_
  obtain ⟨o1, h1, hf⟩ := g_bnd hf
  refine gs_callSi (ws' := w_X7_same cI cZ cJ a_t a_ty a_ty_callCounts a_ty_differing a_tb a_ta a_tk a_tf a_tg a_th a_ty_outputValues a_ty_latestValues t_analysed ty_doneCount ty_outputCount ty_callCounts ty_differing) hC hW (k_X7_isTallied l tA dC dI cI cZ cJ x1 x2 _ h1) yk_X7_isTallied lk_X7_205 is_X7_isTallied ⟨rfl, rfl⟩ ⟨Nat.le_of_ble_eq_true rfl, Nat.le_of_ble_eq_true rfl⟩ hl.1 [] [0, 1, 2, 3] [0, 1, 2, 3] rfl rfl rfl rfl (by decide) rfl rfl rfl rfl (Nat.le_of_ble_eq_true rfl) dX7_same_2 ⟨by decide, by decide⟩ (fun H locs hW => ?_)
  refine lv_if_ne (tgt := 18) hx hb dX7_same_5 (by decide) (fun c2 => ?_) (fun c2 => ?_)
  · replace hf := (if_neg c2).symm.trans hf
    refine lv_aload_n hx hb dX7_same_18 rfl (lv_at hl 0 rfl) ?_
    refine gs_get hC hW in_X7 0 5 rfl rfl (by decide) fl_X7_45 rfl dX7_same_19 ?_
    refine gs_get hC hW in_X6 1 3 rfl rfl (by decide) fl_X7_202 rfl dX7_same_22 ?_
    refine lv_iload_n hx hb dX7_same_25 rfl (lv_at hl 1 rfl) ?_
    obtain ⟨v3, h3, hf⟩ := g_bnd hf
    refine gs_iald hC hW 2 h3 rfl dX7_same_26 ?_
    refine lv_if_le (tgt := 50) hx hb dX7_same_27 (by decide) (fun c4 => ?_) (fun c4 => ?_)
    · replace hf := (if_pos c4).symm.trans hf
      refine lv_iconst (v := 0) hx hb dX7_same_50 (by decide) ?_
      obtain rfl := Option.some.inj hf
      exact gs_rxz 0 hC hW rfl rfl rfl (by decide) (by decide) g_n0 dX7_same_51
    · replace hf := (if_neg c4).symm.trans hf
      refine lv_aload_n hx hb dX7_same_30 rfl (lv_at hl 0 rfl) ?_
      refine gs_get hC hW in_X7 0 5 rfl rfl (by decide) fl_X7_45 rfl dX7_same_31 ?_
      refine gs_get hC hW in_X6 1 5 rfl rfl (by decide) fl_X7_210 rfl dX7_same_34 ?_
      refine lv_iload_n hx hb dX7_same_37 rfl (lv_at hl 1 rfl) ?_
      refine lv_iconst (v := 3) hx hb dX7_same_38 (by decide) ?_
      refine lv_imul hx hb dX7_same_39 ?_
      refine lv_iload_n hx hb dX7_same_40 rfl (lv_at hl 2 rfl) ?_
      refine lv_iadd hx hb dX7_same_41 ?_
      obtain ⟨v5, h5, hf⟩ := g_bnd hf
      refine gs_zald hC hW 3 h5 rfl dX7_same_42 ?_
      refine lv_if_ne (tgt := 50) hx hb dX7_same_43 (by decide) (fun c6 => ?_) (fun c6 => ?_)
      · replace hf := (if_neg c6).symm.trans hf
        refine lv_iconst (v := 0) hx hb dX7_same_50 (by decide) ?_
        obtain rfl := Option.some.inj hf
        exact gs_rxz 0 hC hW rfl rfl rfl (by decide) (by decide) g_n0 dX7_same_51
      · replace hf := (if_pos c6).symm.trans hf
        refine lv_iconst (v := 1) hx hb dX7_same_46 (by decide) ?_
        refine lv_goto (tgt := 51) hx hb dX7_same_47 (by decide) ?_
        obtain rfl := Option.some.inj hf
        exact gs_rxz 1 hC hW rfl rfl rfl (by decide) (by decide) g_n1 dX7_same_51
  · replace hf := (if_pos c2).symm.trans hf
    obtain rfl := Option.some.inj hf
    exact gs_throw (text := "no such function or parameter") hC hW hH hlt hxt gE_88 (by decide) rfl rfl hl.1 dX7_same_8 dX7_same_11 dX7_same_12 dX7_same_14 dX7_same_17 (by decide) (by decide) (by decide) (by decide)

abbrev w_X7_latest (cI cZ cJ : ClassId) (a_t : Nat) (a_ty : Nat) (a_ty_latestValues : Nat) (a_tb : Nat) (a_ta : Nat) (a_tk : Nat) (a_tf : Nat) (a_tg : Nat) (a_th : Nat) (a_ty_outputValues : Nat) (a_ty_callCounts : Nat) (a_ty_differing : Nat) (t_analysed : Int32) (ty_doneCount : Int32) (ty_outputCount : Int32) (ty_latestValues : Nat → Int32) : va_W := [(a_t, .inr (7, [.ref a_tb, .ref a_ta, .ref a_tk, .ref a_tf, .ref a_tg, .ref a_ty, .ref a_th, .int t_analysed])), (a_ty, .inr (6, [.int ty_doneCount, .int ty_outputCount, .ref a_ty_outputValues, .ref a_ty_callCounts, .ref a_ty_latestValues, .ref a_ty_differing])), (a_ty_latestValues, .inl (cI, 36, .inl ty_latestValues))]
abbrev r_X7_latest : Room := { frames := 6, cells := 1, slots := 6, locals := 82 }
def f_X7_latest (x1 : Int32) (x2 : Int32) (ty_latestValues : Nat → Int32) : Option ((Int32) ⊕ String) := (f_X7_isTallied x1 x2).bind (fun o1 => if o1 = 0 then some (.inr "java/lang/IndexOutOfBoundsException") else (g_rd 36 ty_latestValues ((x1 * 3) + x2)).bind (fun v3 => some (.inl v3)))
set_option maxHeartbeats 4000000 in
set_option maxRecDepth 100000 in
theorem k_X7_latest (l : Launch) (tA : Nat) (dC : Nat → ClassId) (dI : Nat → Nat → Nat) (cI cZ cJ : ClassId) (hlt : l.stackTraces = false) (a_t : Nat) (a_ty : Nat) (a_ty_latestValues : Nat) (a_tb : Nat) (a_ta : Nat) (a_tk : Nat) (a_tf : Nat) (a_tg : Nat) (a_th : Nat) (a_ty_outputValues : Nat) (a_ty_callCounts : Nat) (a_ty_differing : Nat) (x1 : Int32) (x2 : Int32) (t_analysed : Int32) (ty_doneCount : Int32) (ty_outputCount : Int32) (ty_latestValues : Nat → Int32) (out : (Int32) ⊕ String) (hf : f_X7_latest x1 x2 ty_latestValues = some out) : g_MX l yX7_latest cX7_latest 3 (some .int) r_X7_latest tA dC dI cI cZ cJ [.ref a_t, .int x1, .int x2] (w_X7_latest cI cZ cJ a_t a_ty a_ty_latestValues a_tb a_ta a_tk a_tf a_tg a_th a_ty_outputValues a_ty_callCounts a_ty_differing t_analysed ty_doneCount ty_outputCount ty_latestValues) (fun u => w_X7_latest cI cZ cJ a_t a_ty a_ty_latestValues a_tb a_ta a_tk a_tf a_tg a_th a_ty_outputValues a_ty_callCounts a_ty_differing t_analysed ty_doneCount ty_outputCount ty_latestValues) (fun u => u) out := by
  unfold f_X7_latest at hf
  refine ge_x (by decide) (Nat.le_of_ble_eq_true rfl) (fun p e s m below meth c A H locs ls hC hxt hH hW hl => ?_)
  have hC : g_C p s m meth c _ cX7_latest 3 (some .int) RX7 := hC
  have hx := hC.1
  have hb := hC.2.1
  have hown := hC.2.2.2.2.1
  have hts := hC.2.2.2.2.2.1
  have hl : lv_has ls 3 [(0, .ref a_t), (1, .int x1), (2, .int x2)] := hl
  refine lv_iload_n hx hb dX7_latest_0 rfl (lv_at hl 1 rfl) ?_
  refine lv_iload_n hx hb dX7_latest_1 rfl (lv_at hl 2 rfl) ?_
  obtain ⟨o1, h1, hf⟩ := g_bnd hf
  refine gs_callSi (ws' := w_X7_latest cI cZ cJ a_t a_ty a_ty_latestValues a_tb a_ta a_tk a_tf a_tg a_th a_ty_outputValues a_ty_callCounts a_ty_differing t_analysed ty_doneCount ty_outputCount ty_latestValues) hC hW (k_X7_isTallied l tA dC dI cI cZ cJ x1 x2 _ h1) yk_X7_isTallied lk_X7_205 is_X7_isTallied ⟨rfl, rfl⟩ ⟨Nat.le_of_ble_eq_true rfl, Nat.le_of_ble_eq_true rfl⟩ hl.1 [] [0, 1, 2] [0, 1, 2] rfl rfl rfl rfl (by decide) rfl rfl rfl rfl (Nat.le_of_ble_eq_true rfl) dX7_latest_2 ⟨by decide, by decide⟩ (fun H locs hW => ?_)
  refine lv_if_ne (tgt := 18) hx hb dX7_latest_5 (by decide) (fun c2 => ?_) (fun c2 => ?_)
  · replace hf := (if_neg c2).symm.trans hf
    refine lv_aload_n hx hb dX7_latest_18 rfl (lv_at hl 0 rfl) ?_
    refine gs_get hC hW in_X7 0 5 rfl rfl (by decide) fl_X7_45 rfl dX7_latest_19 ?_
    refine gs_get hC hW in_X6 1 4 rfl rfl (by decide) fl_X7_213 rfl dX7_latest_22 ?_
    refine lv_iload_n hx hb dX7_latest_25 rfl (lv_at hl 1 rfl) ?_
    refine lv_iconst (v := 3) hx hb dX7_latest_26 (by decide) ?_
    refine lv_imul hx hb dX7_latest_27 ?_
    refine lv_iload_n hx hb dX7_latest_28 rfl (lv_at hl 2 rfl) ?_
    refine lv_iadd hx hb dX7_latest_29 ?_
    obtain ⟨v3, h3, hf⟩ := g_bnd hf
    refine gs_iald hC hW 2 h3 rfl dX7_latest_30 ?_
    obtain rfl := Option.some.inj hf
    exact gs_rxi v3 hC hW rfl rfl rfl (by decide) (by decide) dX7_latest_31
  · replace hf := (if_pos c2).symm.trans hf
    obtain rfl := Option.some.inj hf
    exact gs_throw (text := "no such function or parameter") hC hW hH hlt hxt gE_88 (by decide) rfl rfl hl.1 dX7_latest_8 dX7_latest_11 dX7_latest_12 dX7_latest_14 dX7_latest_17 (by decide) (by decide) (by decide) (by decide)
