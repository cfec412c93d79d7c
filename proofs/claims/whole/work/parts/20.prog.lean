theorem in_X4 : ∀ w ∈ wsX40, w ∈ gw := by decide +kernel
theorem fl_X4_9 : Cond.fieldLink RX4 9 (TX4 0).1 (TX4 0).2.1 (TX4 0).2.2.1 ∈ gw := gw_i 87 (by decide +kernel) rfl
theorem fl_X4_25 : Cond.fieldLink RX4 25 (TX4 4).1 (TX4 4).2.1 (TX4 4).2.2.1 ∈ gw := gw_i 102 (by decide +kernel) rfl
theorem lk_X4_39 : Cond.methodLink RX4 39 yX4_startOf ∈ gw := gw_i 462 (by decide +kernel) rfl
theorem yk_X4_startOf : g_Y yX4_startOf cX4_startOf 2 (some .int) 2 := ⟨gw_i 464 (by decide +kernel) rfl, gw_i 57 (by decide +kernel) rfl, by decide +kernel, by decide +kernel, by decide +kernel⟩
theorem is_X4_startOf : Cond.static yX4_startOf ∈ gw := gw_i 463 (by decide +kernel) rfl
theorem fl_X4_18 : Cond.fieldLink RX4 18 (TX4 2).1 (TX4 2).2.1 (TX4 2).2.2.1 ∈ gw := gw_i 93 (by decide +kernel) rfl
theorem fl_X4_22 : Cond.fieldLink RX4 22 (TX4 3).1 (TX4 3).2.1 (TX4 3).2.2.1 ∈ gw := gw_i 97 (by decide +kernel) rfl
theorem yk_X4_putField : g_Y yX4_putField cX4_putField 5 (none : Option Jvm.ClassFile.FieldType) 4 := ⟨gw_i 461 (by decide +kernel) rfl, gw_i 57 (by decide +kernel) rfl, by decide +kernel, by decide +kernel, by decide +kernel⟩
theorem lk_X4_31 : Cond.methodLink RX4 31 yX4_putField ∈ gw := gw_i 458 (by decide +kernel) rfl
theorem iv_X4_putField : Cond.instanceMethod yX4_putField ∈ gw ∧ Cond.selects RX4 yX4_putField yX4_putField ∈ gw := ⟨gw_i 459 (by decide +kernel) rfl, gw_i 460 (by decide +kernel) rfl⟩
theorem fl_X4_28 : Cond.fieldLink RX4 28 (TX4 5).1 (TX4 5).2.1 (TX4 5).2.2.1 ∈ gw := gw_i 103 (by decide +kernel) rfl
theorem fl_X4_15 : Cond.fieldLink RX4 15 (TX4 1).1 (TX4 1).2.1 (TX4 1).2.2.1 ∈ gw := gw_i 90 (by decide +kernel) rfl
theorem yk_X4_addFunction : g_Y yX4_addFunction cX4_addFunction 3 (some .int) 1 := ⟨gw_i 411 (by decide +kernel) rfl, gw_i 57 (by decide +kernel) rfl, by decide +kernel, by decide +kernel, by decide +kernel⟩
theorem lk_X4_35 : Cond.methodLink RX4 35 yX4_addFunction ∈ gw := gw_i 605 (by decide +kernel) rfl
theorem iv_X4_addFunction : Cond.instanceMethod yX4_addFunction ∈ gw ∧ Cond.selects RX4 yX4_addFunction yX4_addFunction ∈ gw := ⟨gw_i 409 (by decide +kernel) rfl, gw_i 410 (by decide +kernel) rfl⟩
theorem ac_lk_X4_43 : Cond.methodLink RX4 43 arraycopyName ∈ gw := gw_i 491 (by decide +kernel) rfl
theorem ac_nat : Cond.native arraycopyName ∈ gw := gw_i 493 (by decide +kernel) rfl
theorem ac_st : Cond.static arraycopyName ∈ gw := gw_i 492 (by decide +kernel) rfl
theorem ac_in : Cond.initialized "java/lang/System" ∈ gw := gw_i 71 (by decide +kernel) rfl
theorem lk_X4_49 : Cond.methodLink RX4 49 yJ9_floorMod_7cf53 ∈ gw := gw_i 554 (by decide +kernel) rfl
theorem yk_J9_floorMod_7cf53 : g_Y yJ9_floorMod_7cf53 cJ9_floorMod_7cf53 3 (some .int) 2 := ⟨gw_i 556 (by decide +kernel) rfl, gw_i 72 (by decide +kernel) rfl, by decide +kernel, by decide +kernel, by decide +kernel⟩
theorem is_J9_floorMod_7cf53 : Cond.static yJ9_floorMod_7cf53 ∈ gw := gw_i 555 (by decide +kernel) rfl
abbrev w_J9_floorMod_7cf53 (cI cZ cJ : ClassId) : va_W := []
abbrev r_J9_floorMod_7cf53 : Room := { frames := 0, cells := 0, slots := 0, locals := 0 }
def f_J9_floorMod_7cf53 (x0 : Int32) (x1 : Int32) : Option (Int32) := (g_rm x0 x1).bind (fun v1 => if 0 ≤ (x0 ^^^ x1) then some v1 else if v1 = 0 then some v1 else some (v1 + x1))
set_option maxHeartbeats 4000000 in
set_option maxRecDepth 100000 in
theorem k_J9_floorMod_7cf53 (l : Launch) (tA : Nat) (dC : Nat → ClassId) (dI : Nat → Nat → Nat) (cI cZ cJ : ClassId) (x0 : Int32) (x1 : Int32) (out : Int32) (hf : f_J9_floorMod_7cf53 x0 x1 = some out) : g_Mi l yJ9_floorMod_7cf53 cJ9_floorMod_7cf53 3 (some .int) r_J9_floorMod_7cf53 tA dC dI cI cZ cJ [.int x0, .int x1] (w_J9_floorMod_7cf53 cI cZ cJ ) (w_J9_floorMod_7cf53 cI cZ cJ ) out := by
  unfold f_J9_floorMod_7cf53 at hf
  refine ge_iF (by decide +kernel) (Nat.le_of_ble_eq_true rfl) (fun p e s m below meth c A H locs ls hC hW hl => ?_)
  have hC : g_C p s m meth c _ cJ9_floorMod_7cf53 3 (some .int) RJ9 := hC
  have hx := hC.1
  have hb := hC.2.1
  have hown := hC.2.2.2.2.1
  have hts := hC.2.2.2.2.2.1
  have hl : lv_has ls 3 [(0, .int x0), (1, .int x1)] := hl
  refine lv_iload_n hx hb dJ9_floorMod_7cf53_0 rfl (lv_at hl 0 rfl) ?_
  refine lv_iload_n hx hb dJ9_floorMod_7cf53_1 rfl (lv_at hl 1 rfl) ?_
  obtain ⟨v1, h1, hf⟩ := g_bnd hf
  refine gs_irem hC h1 dJ9_floorMod_7cf53_2 ?_
  refine lv_istore_n (lv' := [(2, .int v1), (0, .int x0), (1, .int x1)]) hx hb dJ9_floorMod_7cf53_3 rfl hl (by decide) rfl (fun ls hl => ?_)
  refine lv_iload_n hx hb dJ9_floorMod_7cf53_4 rfl (lv_at hl 1 rfl) ?_
  refine lv_iload_n hx hb dJ9_floorMod_7cf53_5 rfl (lv_at hl 2 rfl) ?_
  refine lv_ixor hx hb dJ9_floorMod_7cf53_6 ?_
  refine lv_if_ge (tgt := 18) hx hb dJ9_floorMod_7cf53_7 (by decide) (fun c2 => ?_) (fun c2 => ?_)
  · replace hf := (if_pos c2).symm.trans hf
    refine lv_iload_n hx hb dJ9_floorMod_7cf53_18 rfl (lv_at hl 0 rfl) ?_
    obtain rfl := Option.some.inj hf
    exact gs_ri hC hW rfl dJ9_floorMod_7cf53_19
  · replace hf := (if_neg c2).symm.trans hf
    refine lv_iload_n hx hb dJ9_floorMod_7cf53_10 rfl (lv_at hl 0 rfl) ?_
    refine lv_if_eq (tgt := 18) hx hb dJ9_floorMod_7cf53_11 (by decide) (fun c3 => ?_) (fun c3 => ?_)
    · replace hf := (if_pos c3).symm.trans hf
      refine lv_iload_n hx hb dJ9_floorMod_7cf53_18 rfl (lv_at hl 0 rfl) ?_
      obtain rfl := Option.some.inj hf
      exact gs_ri hC hW rfl dJ9_floorMod_7cf53_19
    · replace hf := (if_neg c3).symm.trans hf
      refine lv_iload_n hx hb dJ9_floorMod_7cf53_14 rfl (lv_at hl 0 rfl) ?_
      refine lv_iload_n hx hb dJ9_floorMod_7cf53_15 rfl (lv_at hl 2 rfl) ?_
      refine lv_iadd hx hb dJ9_floorMod_7cf53_16 ?_
      obtain rfl := Option.some.inj hf
      exact gs_ri hC hW rfl dJ9_floorMod_7cf53_17

abbrev w_X4_startOf (cI cZ cJ : ClassId) : va_W := []
abbrev r_X4_startOf : Room := { frames := 0, cells := 0, slots := 0, locals := 0 }
def f_X4_startOf (x0 : Int32) (x1 : Int32) : Option (Int32) := some (((x0 * 16) + x1) * 6)
set_option maxHeartbeats 4000000 in
set_option maxRecDepth 100000 in
theorem k_X4_startOf (l : Launch) (tA : Nat) (dC : Nat → ClassId) (dI : Nat → Nat → Nat) (cI cZ cJ : ClassId) (x0 : Int32) (x1 : Int32) (out : Int32) (hf : f_X4_startOf x0 x1 = some out) : g_Mi l yX4_startOf cX4_startOf 2 (some .int) r_X4_startOf tA dC dI cI cZ cJ [.int x0, .int x1] (w_X4_startOf cI cZ cJ ) (w_X4_startOf cI cZ cJ ) out := by
  unfold f_X4_startOf at hf
  refine ge_i (by decide) (Nat.le_of_ble_eq_true rfl) (fun p e s m below meth c A H locs ls hC hW hl => ?_)
  have hC : g_C p s m meth c _ cX4_startOf 2 (some .int) RX4 := hC
  have hx := hC.1
  have hb := hC.2.1
  have hown := hC.2.2.2.2.1
  have hts := hC.2.2.2.2.2.1
  have hl : lv_has ls 2 [(0, .int x0), (1, .int x1)] := hl
  refine lv_iload_n hx hb dX4_startOf_0 rfl (lv_at hl 0 rfl) ?_
  refine lv_bipush (v := 16) hx hb dX4_startOf_1 (by decide) ?_
  refine lv_imul hx hb dX4_startOf_3 ?_
  refine lv_iload_n hx hb dX4_startOf_4 rfl (lv_at hl 1 rfl) ?_
  refine lv_iadd hx hb dX4_startOf_5 ?_
  refine lv_bipush (v := 6) hx hb dX4_startOf_6 (by decide) ?_
  refine lv_imul hx hb dX4_startOf_8 ?_
  obtain rfl := Option.some.inj hf
  exact gs_ri hC hW rfl dX4_startOf_9

abbrev w_X4_hasFunction (cI cZ cJ : ClassId) (a_t : Nat) (a_t_parameterCounts : Nat) (a_t_lengths : Nat) (a_t_fields : Nat) (a_t_entries : Nat) (t_functionCount : Int32) (t_entryCount : Int32) : va_W := [(a_t, .inr (4, [.int t_functionCount, .int t_entryCount, .ref a_t_parameterCounts, .ref a_t_lengths, .ref a_t_fields, .ref a_t_entries]))]
abbrev r_X4_hasFunction : Room := { frames := 0, cells := 0, slots := 0, locals := 0 }
def f_X4_hasFunction (x1 : Int32) (t_functionCount : Int32) : Option (Int32) := if x1 < 0 then some 0 else if t_functionCount ≤ x1 then some 0 else some 1
set_option maxHeartbeats 4000000 in
set_option maxRecDepth 100000 in
theorem k_X4_hasFunction (l : Launch) (tA : Nat) (dC : Nat → ClassId) (dI : Nat → Nat → Nat) (cI cZ cJ : ClassId) (a_t : Nat) (a_t_parameterCounts : Nat) (a_t_lengths : Nat) (a_t_fields : Nat) (a_t_entries : Nat) (x1 : Int32) (t_functionCount : Int32) (t_entryCount : Int32) (out : Int32) (hf : f_X4_hasFunction x1 t_functionCount = some out) : g_Mi l yX4_hasFunction cX4_hasFunction 2 (some .boolean) r_X4_hasFunction tA dC dI cI cZ cJ [.ref a_t, .int x1] (w_X4_hasFunction cI cZ cJ a_t a_t_parameterCounts a_t_lengths a_t_fields a_t_entries t_functionCount t_entryCount) (w_X4_hasFunction cI cZ cJ a_t a_t_parameterCounts a_t_lengths a_t_fields a_t_entries t_functionCount t_entryCount) out := by
  unfold f_X4_hasFunction at hf
  refine ge_i (by decide) (Nat.le_of_ble_eq_true rfl) (fun p e s m below meth c A H locs ls hC hW hl => ?_)
  have hC : g_C p s m meth c _ cX4_hasFunction 2 (some .boolean) RX4 := hC
  have hx := hC.1
  have hb := hC.2.1
  have hown := hC.2.2.2.2.1
  have hts := hC.2.2.2.2.2.1
  have hl : lv_has ls 2 [(0, .ref a_t), (1, .int x1)] := hl
  refine lv_iload_n hx hb dX4_hasFunction_0 rfl (lv_at hl 1 rfl) ?_
  refine lv_if_lt (tgt := 16) hx hb dX4_hasFunction_1 (by decide) (fun c1 => ?_) (fun c1 => ?_)
  · replace hf := (if_pos c1).symm.trans hf
    refine lv_iconst (v := 0) hx hb dX4_hasFunction_16 (by decide) ?_
    obtain rfl := Option.some.inj hf
    exact gs_rz hC hW rfl g_n0 dX4_hasFunction_17
  · replace hf := (if_neg c1).symm.trans hf
    refine lv_iload_n hx hb dX4_hasFunction_4 rfl (lv_at hl 1 rfl) ?_
    refine lv_aload_n hx hb dX4_hasFunction_5 rfl (lv_at hl 0 rfl) ?_
    refine gs_get hC hW in_X4 0 0 rfl rfl (by decide) fl_X4_9 rfl dX4_hasFunction_6 ?_
    refine lv_icmp_ge (tgt := 16) hx hb dX4_hasFunction_9 (by decide) (fun c2 => ?_) (fun c2 => ?_)
    · replace hf := (if_pos c2).symm.trans hf
      refine lv_iconst (v := 0) hx hb dX4_hasFunction_16 (by decide) ?_
      obtain rfl := Option.some.inj hf
      exact gs_rz hC hW rfl g_n0 dX4_hasFunction_17
    · replace hf := (if_neg c2).symm.trans hf
      refine lv_iconst (v := 1) hx hb dX4_hasFunction_12 (by decide) ?_
      refine lv_goto (tgt := 17) hx hb dX4_hasFunction_13 (by decide) ?_
      obtain rfl := Option.some.inj hf
      exact gs_rz hC hW rfl g_n1 dX4_hasFunction_17

abbrev w_X4_fieldOf (cI cZ cJ : ClassId) (a_t : Nat) (a_t_fields : Nat) (a_t_parameterCounts : Nat) (a_t_lengths : Nat) (a_t_entries : Nat) (t_functionCount : Int32) (t_entryCount : Int32) (t_fields : Nat → Int32) : va_W := [(a_t, .inr (4, [.int t_functionCount, .int t_entryCount, .ref a_t_parameterCounts, .ref a_t_lengths, .ref a_t_fields, .ref a_t_entries])), (a_t_fields, .inl (cI, 1152, .inl t_fields))]
abbrev r_X4_fieldOf : Room := { frames := 1, cells := 0, slots := 0, locals := 21 }
def f_X4_fieldOf (x1 : Int32) (x2 : Int32) (x3 : Int32) (t_fields : Nat → Int32) : Option (Int32) := (f_X4_startOf x1 x2).bind (fun o1 => (g_rd 1152 t_fields (o1 + x3)).bind (fun v2 => some v2))
set_option maxHeartbeats 4000000 in
set_option maxRecDepth 100000 in
theorem k_X4_fieldOf (l : Launch) (tA : Nat) (dC : Nat → ClassId) (dI : Nat → Nat → Nat) (cI cZ cJ : ClassId) (a_t : Nat) (a_t_fields : Nat) (a_t_parameterCounts : Nat) (a_t_lengths : Nat) (a_t_entries : Nat) (x1 : Int32) (x2 : Int32) (x3 : Int32) (t_functionCount : Int32) (t_entryCount : Int32) (t_fields : Nat → Int32) (out : Int32) (hf : f_X4_fieldOf x1 x2 x3 t_fields = some out) : g_Mi l yX4_fieldOf cX4_fieldOf 4 (some .int) r_X4_fieldOf tA dC dI cI cZ cJ [.ref a_t, .int x1, .int x2, .int x3] (w_X4_fieldOf cI cZ cJ a_t a_t_fields a_t_parameterCounts a_t_lengths a_t_entries t_functionCount t_entryCount t_fields) (w_X4_fieldOf cI cZ cJ a_t a_t_fields a_t_parameterCounts a_t_lengths a_t_entries t_functionCount t_entryCount t_fields) out := by
  unfold f_X4_fieldOf at hf
  refine ge_i (by decide) (Nat.le_of_ble_eq_true rfl) (fun p e s m below meth c A H locs ls hC hW hl => ?_)
  have hC : g_C p s m meth c _ cX4_fieldOf 4 (some .int) RX4 := hC
  have hx := hC.1
  have hb := hC.2.1
  have hown := hC.2.2.2.2.1
  have hts := hC.2.2.2.2.2.1
  have hl : lv_has ls 4 [(0, .ref a_t), (1, .int x1), (2, .int x2), (3, .int x3)] := hl
  refine lv_aload_n hx hb dX4_fieldOf_0 rfl (lv_at hl 0 rfl) ?_
  refine gs_get hC hW in_X4 0 4 rfl rfl (by decide) fl_X4_25 rfl dX4_fieldOf_1 ?_
  refine lv_iload_n hx hb dX4_fieldOf_4 rfl (lv_at hl 1 rfl) ?_
  refine lv_iload_n hx hb dX4_fieldOf_5 rfl (lv_at hl 2 rfl) ?_
  obtain ⟨o1, h1, hf⟩ := g_bnd hf
  refine gs_callSi (ws' := w_X4_fieldOf cI cZ cJ a_t a_t_fields a_t_parameterCounts a_t_lengths a_t_entries t_functionCount t_entryCount t_fields) hC hW (k_X4_startOf l tA dC dI cI cZ cJ x1 x2 _ h1) yk_X4_startOf lk_X4_39 is_X4_startOf ⟨rfl, rfl⟩ ⟨Nat.le_of_ble_eq_true rfl, Nat.le_of_ble_eq_true rfl⟩ hl.1 [] [0, 1] [0, 1] rfl rfl rfl rfl (by decide) rfl rfl rfl rfl (Nat.le_of_ble_eq_true rfl) dX4_fieldOf_6 ⟨Nat.zero_le _, Nat.zero_le _⟩ (fun H locs hW => ?_)
  refine lv_iload_n hx hb dX4_fieldOf_9 rfl (lv_at hl 3 rfl) ?_
  refine lv_iadd hx hb dX4_fieldOf_10 ?_
  obtain ⟨v2, h2, hf⟩ := g_bnd hf
  refine gs_iald hC hW 1 h2 rfl dX4_fieldOf_11 ?_
  obtain rfl := Option.some.inj hf
  exact gs_ri hC hW rfl dX4_fieldOf_12

abbrev w_X4_putField (cI cZ cJ : ClassId) (a_t : Nat) (a_t_fields : Nat) (a_t_parameterCounts : Nat) (a_t_lengths : Nat) (a_t_entries : Nat) (t_functionCount : Int32) (t_entryCount : Int32) (t_fields : Nat → Int32) : va_W := [(a_t, .inr (4, [.int t_functionCount, .int t_entryCount, .ref a_t_parameterCounts, .ref a_t_lengths, .ref a_t_fields, .ref a_t_entries])), (a_t_fields, .inl (cI, 1152, .inl t_fields))]
abbrev r_X4_putField : Room := { frames := 1, cells := 0, slots := 0, locals := 21 }
def f_X4_putField (x1 : Int32) (x2 : Int32) (x3 : Int32) (x4 : Int32) (t_fields : Nat → Int32) : Option (Nat → Int32) := (f_X4_startOf x1 x2).bind (fun o1 => (g_wr 1152 t_fields (o1 + x3) x4).bind (fun s2 => some s2))
set_option maxHeartbeats 4000000 in
set_option maxRecDepth 100000 in
theorem k_X4_putField (l : Launch) (tA : Nat) (dC : Nat → ClassId) (dI : Nat → Nat → Nat) (cI cZ cJ : ClassId) (a_t : Nat) (a_t_fields : Nat) (a_t_parameterCounts : Nat) (a_t_lengths : Nat) (a_t_entries : Nat) (x1 : Int32) (x2 : Int32) (x3 : Int32) (x4 : Int32) (t_functionCount : Int32) (t_entryCount : Int32) (t_fields : Nat → Int32) (out : Nat → Int32) (hf : f_X4_putField x1 x2 x3 x4 t_fields = some out) : g_Mv l yX4_putField cX4_putField 5 (none : Option Jvm.ClassFile.FieldType) r_X4_putField tA dC dI cI cZ cJ [.ref a_t, .int x1, .int x2, .int x3, .int x4] (w_X4_putField cI cZ cJ a_t a_t_fields a_t_parameterCounts a_t_lengths a_t_entries t_functionCount t_entryCount t_fields) (w_X4_putField cI cZ cJ a_t a_t_fields a_t_parameterCounts a_t_lengths a_t_entries t_functionCount t_entryCount out) := by
  unfold f_X4_putField at hf
  refine ge_v (by decide) (Nat.le_of_ble_eq_true rfl) (fun p e s m below meth c A H locs ls hC hW hl => ?_)
  have hC : g_C p s m meth c _ cX4_putField 5 (none : Option Jvm.ClassFile.FieldType) RX4 := hC
  have hx := hC.1
  have hb := hC.2.1
  have hown := hC.2.2.2.2.1
  have hts := hC.2.2.2.2.2.1
  have hl : lv_has ls 5 [(0, .ref a_t), (1, .int x1), (2, .int x2), (3, .int x3), (4, .int x4)] := hl
  refine lv_aload_n hx hb dX4_putField_0 rfl (lv_at hl 0 rfl) ?_
  refine gs_get hC hW in_X4 0 4 rfl rfl (by decide) fl_X4_25 rfl dX4_putField_1 ?_
  refine lv_iload_n hx hb dX4_putField_4 rfl (lv_at hl 1 rfl) ?_
  refine lv_iload_n hx hb dX4_putField_5 rfl (lv_at hl 2 rfl) ?_
  obtain ⟨o1, h1, hf⟩ := g_bnd hf
  refine gs_callSi (ws' := w_X4_putField cI cZ cJ a_t a_t_fields a_t_parameterCounts a_t_lengths a_t_entries t_functionCount t_entryCount t_fields) hC hW (k_X4_startOf l tA dC dI cI cZ cJ x1 x2 _ h1) yk_X4_startOf lk_X4_39 is_X4_startOf ⟨rfl, rfl⟩ ⟨Nat.le_of_ble_eq_true rfl, Nat.le_of_ble_eq_true rfl⟩ hl.1 [] [0, 1] [0, 1] rfl rfl rfl rfl (by decide) rfl rfl rfl rfl (Nat.le_of_ble_eq_true rfl) dX4_putField_6 ⟨Nat.zero_le _, Nat.zero_le _⟩ (fun H locs hW => ?_)
  refine lv_iload_n hx hb dX4_putField_9 rfl (lv_at hl 3 rfl) ?_
  refine lv_iadd hx hb dX4_putField_10 ?_
  refine lv_iload hx hb dX4_putField_11 (lv_at hl 4 rfl) ?_
  obtain ⟨s2, h2, hf⟩ := g_bnd hf
  refine gs_iast (ws' := w_X4_putField cI cZ cJ a_t a_t_fields a_t_parameterCounts a_t_lengths a_t_entries t_functionCount t_entryCount s2) hC hW 1 h2 rfl rfl dX4_putField_13 (fun H locs hW => ?_)
  obtain rfl := Option.some.inj hf
  exact gs_rv hC hW rfl dX4_putField_14

abbrev w_X4_addFunction (cI cZ cJ : ClassId) (a_t : Nat) (a_t_parameterCounts : Nat) (a_t_lengths : Nat) (a_t_fields : Nat) (a_t_entries : Nat) (t_functionCount : Int32) (t_entryCount : Int32) (t_parameterCounts : Nat → Int32) (t_lengths : Nat → Int32) : va_W := [(a_t, .inr (4, [.int t_functionCount, .int t_entryCount, .ref a_t_parameterCounts, .ref a_t_lengths, .ref a_t_fields, .ref a_t_entries])), (a_t_parameterCounts, .inl (cI, 12, .inl t_parameterCounts)), (a_t_lengths, .inl (cI, 12, .inl t_lengths))]
abbrev r_X4_addFunction : Room := { frames := 0, cells := 0, slots := 0, locals := 0 }
def f_X4_addFunction (x1 : Int32) (t_functionCount : Int32) (t_parameterCounts : Nat → Int32) (t_lengths : Nat → Int32) : Option (Int32 × Int32 × (Nat → Int32) × (Nat → Int32)) := (g_wr 12 t_parameterCounts t_functionCount x1).bind (fun s1 => (g_wr 12 t_lengths t_functionCount 0).bind (fun s2 => some (t_functionCount, t_functionCount + 1, s1, s2)))
set_option maxHeartbeats 4000000 in
set_option maxRecDepth 100000 in
theorem k_X4_addFunction (l : Launch) (tA : Nat) (dC : Nat → ClassId) (dI : Nat → Nat → Nat) (cI cZ cJ : ClassId) (a_t : Nat) (a_t_parameterCounts : Nat) (a_t_lengths : Nat) (a_t_fields : Nat) (a_t_entries : Nat) (x1 : Int32) (t_functionCount : Int32) (t_entryCount : Int32) (t_parameterCounts : Nat → Int32) (t_lengths : Nat → Int32) (out : Int32 × Int32 × (Nat → Int32) × (Nat → Int32)) (hf : f_X4_addFunction x1 t_functionCount t_parameterCounts t_lengths = some out) : g_Mi l yX4_addFunction cX4_addFunction 3 (some .int) r_X4_addFunction tA dC dI cI cZ cJ [.ref a_t, .int x1] (w_X4_addFunction cI cZ cJ a_t a_t_parameterCounts a_t_lengths a_t_fields a_t_entries t_functionCount t_entryCount t_parameterCounts t_lengths) (w_X4_addFunction cI cZ cJ a_t a_t_parameterCounts a_t_lengths a_t_fields a_t_entries out.2.1 t_entryCount out.2.2.1 out.2.2.2) out.1 := by
  unfold f_X4_addFunction at hf
  refine ge_i (by decide) (Nat.le_of_ble_eq_true rfl) (fun p e s m below meth c A H locs ls hC hW hl => ?_)
  have hC : g_C p s m meth c _ cX4_addFunction 3 (some .int) RX4 := hC
  have hx := hC.1
  have hb := hC.2.1
  have hown := hC.2.2.2.2.1
  have hts := hC.2.2.2.2.2.1
  have hl : lv_has ls 3 [(0, .ref a_t), (1, .int x1)] := hl
  refine lv_aload_n hx hb dX4_addFunction_0 rfl (lv_at hl 0 rfl) ?_
  refine gs_get hC hW in_X4 0 0 rfl rfl (by decide) fl_X4_9 rfl dX4_addFunction_1 ?_
  refine lv_istore_n (lv' := [(2, .int t_functionCount), (0, .ref a_t), (1, .int x1)]) hx hb dX4_addFunction_4 rfl hl (by decide) rfl (fun ls hl => ?_)
  refine lv_aload_n hx hb dX4_addFunction_5 rfl (lv_at hl 1 rfl) ?_
  refine gs_get hC hW in_X4 0 2 rfl rfl (by decide) fl_X4_18 rfl dX4_addFunction_6 ?_
  refine lv_iload_n hx hb dX4_addFunction_9 rfl (lv_at hl 0 rfl) ?_
  refine lv_iload_n hx hb dX4_addFunction_10 rfl (lv_at hl 2 rfl) ?_
  obtain ⟨s1, h1, hf⟩ := g_bnd hf
  refine gs_iast (ws' := w_X4_addFunction cI cZ cJ a_t a_t_parameterCounts a_t_lengths a_t_fields a_t_entries t_functionCount t_entryCount s1 t_lengths) hC hW 1 h1 rfl rfl dX4_addFunction_11 (fun H locs hW => ?_)
  refine lv_aload_n hx hb dX4_addFunction_12 rfl (lv_at hl 1 rfl) ?_
  refine gs_get hC hW in_X4 0 3 rfl rfl (by decide) fl_X4_22 rfl dX4_addFunction_13 ?_
  refine lv_iload_n hx hb dX4_addFunction_16 rfl (lv_at hl 0 rfl) ?_
  refine lv_iconst (v := 0) hx hb dX4_addFunction_17 (by decide) ?_
  obtain ⟨s2, h2, hf⟩ := g_bnd hf
  refine gs_iast (ws' := w_X4_addFunction cI cZ cJ a_t a_t_parameterCounts a_t_lengths a_t_fields a_t_entries t_functionCount t_entryCount s1 s2) hC hW 2 h2 rfl rfl dX4_addFunction_18 (fun H locs hW => ?_)
  refine lv_aload_n hx hb dX4_addFunction_19 rfl (lv_at hl 1 rfl) ?_
  refine lv_dup hx hb dX4_addFunction_20 rfl ?_
  refine gs_get hC hW in_X4 0 0 rfl rfl (by decide) fl_X4_9 rfl dX4_addFunction_21 ?_
  refine lv_iconst (v := 1) hx hb dX4_addFunction_24 (by decide) ?_
  refine lv_iadd hx hb dX4_addFunction_25 ?_
  refine gs_put (ws' := w_X4_addFunction cI cZ cJ a_t a_t_parameterCounts a_t_lengths a_t_fields a_t_entries (t_functionCount + 1) t_entryCount s1 s2) hC hW in_X4 tyX4_ok nmX4 0 0 rfl rfl (by decide) fl_X4_9 rfl rfl rfl (Nat.le_of_ble_eq_true rfl) rfl dX4_addFunction_26 (fun H locs hW => ?_)
  refine lv_iload_n hx hb dX4_addFunction_29 rfl (lv_at hl 0 rfl) ?_
  obtain rfl := Option.some.inj hf
  exact gs_ri hC hW rfl dX4_addFunction_30

abbrev w_X4_placeOf (cI cZ cJ : ClassId) (a_t : Nat) (a_t_lengths : Nat) (a_t_parameterCounts : Nat) (a_t_fields : Nat) (a_t_entries : Nat) (t_functionCount : Int32) (t_entryCount : Int32) (t_lengths : Nat → Int32) : va_W := [(a_t, .inr (4, [.int t_functionCount, .int t_entryCount, .ref a_t_parameterCounts, .ref a_t_lengths, .ref a_t_fields, .ref a_t_entries])), (a_t_lengths, .inl (cI, 12, .inl t_lengths))]
abbrev r_X4_placeOf : Room := { frames := 0, cells := 0, slots := 0, locals := 0 }
def f_X4_placeOf (x1 : Int32) (x2 : Int32) (t_lengths : Nat → Int32) : Option (Int32) := (g_rd 12 t_lengths x1).bind (fun v1 => if v1 ≤ x2 then (g_rd 12 t_lengths x1).bind (fun v3 => some ((x1 * 17) + v3)) else some ((x1 * 17) + x2))
set_option maxHeartbeats 4000000 in
set_option maxRecDepth 100000 in
theorem k_X4_placeOf (l : Launch) (tA : Nat) (dC : Nat → ClassId) (dI : Nat → Nat → Nat) (cI cZ cJ : ClassId) (a_t : Nat) (a_t_lengths : Nat) (a_t_parameterCounts : Nat) (a_t_fields : Nat) (a_t_entries : Nat) (x1 : Int32) (x2 : Int32) (t_functionCount : Int32) (t_entryCount : Int32) (t_lengths : Nat → Int32) (out : Int32) (hf : f_X4_placeOf x1 x2 t_lengths = some out) : g_Mi l yX4_placeOf cX4_placeOf 3 (some .int) r_X4_placeOf tA dC dI cI cZ cJ [.ref a_t, .int x1, .int x2] (w_X4_placeOf cI cZ cJ a_t a_t_lengths a_t_parameterCounts a_t_fields a_t_entries t_functionCount t_entryCount t_lengths) (w_X4_placeOf cI cZ cJ a_t a_t_lengths a_t_parameterCounts a_t_fields a_t_entries t_functionCount t_entryCount t_lengths) out := by
  unfold f_X4_placeOf at hf
  refine ge_i (by decide) (Nat.le_of_ble_eq_true rfl) (fun p e s m below meth c A H locs ls hC hW hl => ?_)
  have hC : g_C p s m meth c _ cX4_placeOf 3 (some .int) RX4 := hC
  have hx := hC.1
  have hb := hC.2.1
  have hown := hC.2.2.2.2.1
  have hts := hC.2.2.2.2.2.1
  have hl : lv_has ls 3 [(0, .ref a_t), (1, .int x1), (2, .int x2)] := hl
  refine lv_iload_n hx hb dX4_placeOf_0 rfl (lv_at hl 1 rfl) ?_
  refine lv_bipush (v := 17) hx hb dX4_placeOf_1 (by decide) ?_
  refine lv_imul hx hb dX4_placeOf_3 ?_
  refine lv_iload_n hx hb dX4_placeOf_4 rfl (lv_at hl 2 rfl) ?_
  refine lv_aload_n hx hb dX4_placeOf_5 rfl (lv_at hl 0 rfl) ?_
  refine gs_get hC hW in_X4 0 3 rfl rfl (by decide) fl_X4_22 rfl dX4_placeOf_6 ?_
  refine lv_iload_n hx hb dX4_placeOf_9 rfl (lv_at hl 1 rfl) ?_
  obtain ⟨v1, h1, hf⟩ := g_bnd hf
  refine gs_iald hC hW 1 h1 rfl dX4_placeOf_10 ?_
  refine lv_icmp_ge (tgt := 18) hx hb dX4_placeOf_11 (by decide) (fun c2 => ?_) (fun c2 => ?_)
  · replace hf := (if_pos c2).symm.trans hf
    refine lv_aload_n hx hb dX4_placeOf_18 rfl (lv_at hl 0 rfl) ?_
    refine gs_get hC hW in_X4 0 3 rfl rfl (by decide) fl_X4_22 rfl dX4_placeOf_19 ?_
    refine lv_iload_n hx hb dX4_placeOf_22 rfl (lv_at hl 1 rfl) ?_
    obtain ⟨v3, h3, hf⟩ := g_bnd hf
    refine gs_iald hC hW 1 h3 rfl dX4_placeOf_23 ?_
    refine lv_iadd hx hb dX4_placeOf_24 ?_
    obtain rfl := Option.some.inj hf
    exact gs_ri hC hW rfl dX4_placeOf_25
  · replace hf := (if_neg c2).symm.trans hf
    refine lv_iload_n hx hb dX4_placeOf_14 rfl (lv_at hl 2 rfl) ?_
    refine lv_goto (tgt := 24) hx hb dX4_placeOf_15 (by decide) ?_
    refine lv_iadd hx hb dX4_placeOf_24 ?_
    obtain rfl := Option.some.inj hf
    exact gs_ri hC hW rfl dX4_placeOf_25

abbrev w_X4_addStatement (cI cZ cJ : ClassId) (a_t : Nat) (a_t_lengths : Nat) (a_t_fields : Nat) (a_t_parameterCounts : Nat) (a_t_entries : Nat) (t_functionCount : Int32) (t_entryCount : Int32) (t_lengths : Nat → Int32) (t_fields : Nat → Int32) : va_W := [(a_t, .inr (4, [.int t_functionCount, .int t_entryCount, .ref a_t_parameterCounts, .ref a_t_lengths, .ref a_t_fields, .ref a_t_entries])), (a_t_lengths, .inl (cI, 12, .inl t_lengths)), (a_t_fields, .inl (cI, 1152, .inl t_fields))]
abbrev r_X4_addStatement : Room := { frames := 2, cells := 0, slots := 0, locals := 45 }
def f_X4_addStatement (x1 : Int32) (x2 : Int32) (x3 : Int32) (x4 : Int32) (t_lengths : Nat → Int32) (t_fields : Nat → Int32) : Option (Int32 × (Nat → Int32) × (Nat → Int32)) := (g_rd 12 t_lengths x1).bind (fun v1 => (f_X4_putField x1 v1 0 x2 t_fields).bind (fun o2 => (f_X4_putField x1 v1 1 x3 o2).bind (fun o3 => (f_X4_putField x1 v1 2 x4 o3).bind (fun o4 => (g_rd 12 t_lengths x1).bind (fun v5 => (g_wr 12 t_lengths x1 (v5 + 1)).bind (fun s6 => some (v1, s6, o4)))))))
set_option maxHeartbeats 4000000 in
set_option maxRecDepth 100000 in
theorem k_X4_addStatement (l : Launch) (tA : Nat) (dC : Nat → ClassId) (dI : Nat → Nat → Nat) (cI cZ cJ : ClassId) (a_t : Nat) (a_t_lengths : Nat) (a_t_fields : Nat) (a_t_parameterCounts : Nat) (a_t_entries : Nat) (x1 : Int32) (x2 : Int32) (x3 : Int32) (x4 : Int32) (t_functionCount : Int32) (t_entryCount : Int32) (t_lengths : Nat → Int32) (t_fields : Nat → Int32) (out : Int32 × (Nat → Int32) × (Nat → Int32)) (hf : f_X4_addStatement x1 x2 x3 x4 t_lengths t_fields = some out) : g_Mi l yX4_addStatement cX4_addStatement 6 (some .int) r_X4_addStatement tA dC dI cI cZ cJ [.ref a_t, .int x1, .int x2, .int x3, .int x4] (w_X4_addStatement cI cZ cJ a_t a_t_lengths a_t_fields a_t_parameterCounts a_t_entries t_functionCount t_entryCount t_lengths t_fields) (w_X4_addStatement cI cZ cJ a_t a_t_lengths a_t_fields a_t_parameterCounts a_t_entries t_functionCount t_entryCount out.2.1 out.2.2) out.1 := by
  unfold f_X4_addStatement at hf
  refine ge_i (by decide) (Nat.le_of_ble_eq_true rfl) (fun p e s m below meth c A H locs ls hC hW hl => ?_)
  have hC : g_C p s m meth c _ cX4_addStatement 6 (some .int) RX4 := hC
  have hx := hC.1
  have hb := hC.2.1
  have hown := hC.2.2.2.2.1
  have hts := hC.2.2.2.2.2.1
  have hl : lv_has ls 6 [(0, .ref a_t), (1, .int x1), (2, .int x2), (3, .int x3), (4, .int x4)] := hl
  refine lv_aload_n hx hb dX4_addStatement_0 rfl (lv_at hl 0 rfl) ?_
  refine gs_get hC hW in_X4 0 3 rfl rfl (by decide) fl_X4_22 rfl dX4_addStatement_1 ?_
  refine lv_iload_n hx hb dX4_addStatement_4 rfl (lv_at hl 1 rfl) ?_
  obtain ⟨v1, h1, hf⟩ := g_bnd hf
  refine gs_iald hC hW 1 h1 rfl dX4_addStatement_5 ?_
  refine lv_istore (lv' := [(5, .int v1), (0, .ref a_t), (1, .int x1), (2, .int x2), (3, .int x3), (4, .int x4)]) hx hb dX4_addStatement_6 hl (by decide) rfl (fun ls hl => ?_)
  refine lv_aload_n hx hb dX4_addStatement_8 rfl (lv_at hl 1 rfl) ?_
  refine lv_iload_n hx hb dX4_addStatement_9 rfl (lv_at hl 2 rfl) ?_
  refine lv_iload hx hb dX4_addStatement_10 (lv_at hl 0 rfl) ?_
  refine lv_iconst (v := 0) hx hb dX4_addStatement_12 (by decide) ?_
  refine lv_iload_n hx hb dX4_addStatement_13 rfl (lv_at hl 3 rfl) ?_
  obtain ⟨o2, h2, hf⟩ := g_bnd hf
  refine gs_callVv (ws' := w_X4_addStatement cI cZ cJ a_t a_t_lengths a_t_fields a_t_parameterCounts a_t_entries t_functionCount t_entryCount t_lengths o2) hC hW (k_X4_putField l tA dC dI cI cZ cJ a_t a_t_fields a_t_parameterCounts a_t_lengths a_t_entries x1 v1 0 x2 t_functionCount t_entryCount t_fields _ h2) yk_X4_putField lk_X4_31 iv_X4_putField ⟨rfl, rfl⟩ ⟨Nat.le_of_ble_eq_true rfl, Nat.le_of_ble_eq_true rfl⟩ hl.1 0 rfl rfl [0, 2] [1] [1, 0, 2] rfl rfl rfl rfl (by decide) rfl rfl rfl rfl (Nat.le_of_ble_eq_true rfl) dX4_addStatement_14 ⟨Nat.zero_le _, Nat.zero_le _⟩ (fun H locs hW => ?_)
  refine lv_aload_n hx hb dX4_addStatement_17 rfl (lv_at hl 1 rfl) ?_
  refine lv_iload_n hx hb dX4_addStatement_18 rfl (lv_at hl 2 rfl) ?_
  refine lv_iload hx hb dX4_addStatement_19 (lv_at hl 0 rfl) ?_
  refine lv_iconst (v := 1) hx hb dX4_addStatement_21 (by decide) ?_
  refine lv_iload_n hx hb dX4_addStatement_22 rfl (lv_at hl 4 rfl) ?_
  obtain ⟨o3, h3, hf⟩ := g_bnd hf
  refine gs_callVv (ws' := w_X4_addStatement cI cZ cJ a_t a_t_lengths a_t_fields a_t_parameterCounts a_t_entries t_functionCount t_entryCount t_lengths o3) hC hW (k_X4_putField l tA dC dI cI cZ cJ a_t a_t_fields a_t_parameterCounts a_t_lengths a_t_entries x1 v1 1 x3 t_functionCount t_entryCount o2 _ h3) yk_X4_putField lk_X4_31 iv_X4_putField ⟨rfl, rfl⟩ ⟨Nat.le_of_ble_eq_true rfl, Nat.le_of_ble_eq_true rfl⟩ hl.1 0 rfl rfl [0, 2] [1] [1, 0, 2] rfl rfl rfl rfl (by decide) rfl rfl rfl rfl (Nat.le_of_ble_eq_true rfl) dX4_addStatement_23 ⟨Nat.zero_le _, Nat.zero_le _⟩ (fun H locs hW => ?_)
  refine lv_aload_n hx hb dX4_addStatement_26 rfl (lv_at hl 1 rfl) ?_
  refine lv_iload_n hx hb dX4_addStatement_27 rfl (lv_at hl 2 rfl) ?_
  refine lv_iload hx hb dX4_addStatement_28 (lv_at hl 0 rfl) ?_
  refine lv_iconst (v := 2) hx hb dX4_addStatement_30 (by decide) ?_
  refine lv_iload hx hb dX4_addStatement_31 (lv_at hl 5 rfl) ?_
  obtain ⟨o4, h4, hf⟩ := g_bnd hf
  refine gs_callVv (ws' := w_X4_addStatement cI cZ cJ a_t a_t_lengths a_t_fields a_t_parameterCounts a_t_entries t_functionCount t_entryCount t_lengths o4) hC hW (k_X4_putField l tA dC dI cI cZ cJ a_t a_t_fields a_t_parameterCounts a_t_lengths a_t_entries x1 v1 2 x4 t_functionCount t_entryCount o3 _ h4) yk_X4_putField lk_X4_31 iv_X4_putField ⟨rfl, rfl⟩ ⟨Nat.le_of_ble_eq_true rfl, Nat.le_of_ble_eq_true rfl⟩ hl.1 0 rfl rfl [0, 2] [1] [1, 0, 2] rfl rfl rfl rfl (by decide) rfl rfl rfl rfl (Nat.le_of_ble_eq_true rfl) dX4_addStatement_33 ⟨Nat.zero_le _, Nat.zero_le _⟩ (fun H locs hW => ?_)
  refine lv_aload_n hx hb dX4_addStatement_36 rfl (lv_at hl 1 rfl) ?_
  refine gs_get hC hW in_X4 0 3 rfl rfl (by decide) fl_X4_22 rfl dX4_addStatement_37 ?_
  refine lv_iload_n hx hb dX4_addStatement_40 rfl (lv_at hl 2 rfl) ?_
  refine lv_dup2_11 hx hb dX4_addStatement_41 rfl rfl ?_
  obtain ⟨v5, h5, hf⟩ := g_bnd hf
  refine gs_iald hC hW 1 h5 rfl dX4_addStatement_42 ?_
  refine lv_iconst (v := 1) hx hb dX4_addStatement_43 (by decide) ?_
  refine lv_iadd hx hb dX4_addStatement_44 ?_
  obtain ⟨s6, h6, hf⟩ := g_bnd hf
  refine gs_iast (ws' := w_X4_addStatement cI cZ cJ a_t a_t_lengths a_t_fields a_t_parameterCounts a_t_entries t_functionCount t_entryCount s6 o4) hC hW 1 h6 rfl rfl dX4_addStatement_45 (fun H locs hW => ?_)
  refine lv_iload hx hb dX4_addStatement_46 (lv_at hl 0 rfl) ?_
  obtain rfl := Option.some.inj hf
  exact gs_ri hC hW rfl dX4_addStatement_48

abbrev w_X4_addEntry (cI cZ cJ : ClassId) (a_t : Nat) (a_t_entries : Nat) (a_t_parameterCounts : Nat) (a_t_lengths : Nat) (a_t_fields : Nat) (t_functionCount : Int32) (t_entryCount : Int32) (t_entries : Nat → Int32) : va_W := [(a_t, .inr (4, [.int t_functionCount, .int t_entryCount, .ref a_t_parameterCounts, .ref a_t_lengths, .ref a_t_fields, .ref a_t_entries])), (a_t_entries, .inl (cI, 4, .inl t_entries))]
abbrev r_X4_addEntry : Room := { frames := 0, cells := 0, slots := 0, locals := 0 }
def f_X4_addEntry (x1 : Int32) (t_entryCount : Int32) (t_entries : Nat → Int32) : Option (Int32 × Int32 × (Nat → Int32)) := (g_wr 4 t_entries t_entryCount x1).bind (fun s1 => some ((t_entryCount + 1), t_entryCount + 1, s1))
set_option maxHeartbeats 4000000 in
set_option maxRecDepth 100000 in
theorem k_X4_addEntry (l : Launch) (tA : Nat) (dC : Nat → ClassId) (dI : Nat → Nat → Nat) (cI cZ cJ : ClassId) (a_t : Nat) (a_t_entries : Nat) (a_t_parameterCounts : Nat) (a_t_lengths : Nat) (a_t_fields : Nat) (x1 : Int32) (t_functionCount : Int32) (t_entryCount : Int32) (t_entries : Nat → Int32) (out : Int32 × Int32 × (Nat → Int32)) (hf : f_X4_addEntry x1 t_entryCount t_entries = some out) : g_Mi l yX4_addEntry cX4_addEntry 2 (some .int) r_X4_addEntry tA dC dI cI cZ cJ [.ref a_t, .int x1] (w_X4_addEntry cI cZ cJ a_t a_t_entries a_t_parameterCounts a_t_lengths a_t_fields t_functionCount t_entryCount t_entries) (w_X4_addEntry cI cZ cJ a_t a_t_entries a_t_parameterCounts a_t_lengths a_t_fields t_functionCount out.2.1 out.2.2) out.1 := by
  unfold f_X4_addEntry at hf
  refine ge_i (by decide) (Nat.le_of_ble_eq_true rfl) (fun p e s m below meth c A H locs ls hC hW hl => ?_)
  have hC : g_C p s m meth c _ cX4_addEntry 2 (some .int) RX4 := hC
  have hx := hC.1
  have hb := hC.2.1
  have hown := hC.2.2.2.2.1
  have hts := hC.2.2.2.2.2.1
  have hl : lv_has ls 2 [(0, .ref a_t), (1, .int x1)] := hl
  refine lv_aload_n hx hb dX4_addEntry_0 rfl (lv_at hl 0 rfl) ?_
  refine gs_get hC hW in_X4 0 5 rfl rfl (by decide) fl_X4_28 rfl dX4_addEntry_1 ?_
  refine lv_aload_n hx hb dX4_addEntry_4 rfl (lv_at hl 0 rfl) ?_
  refine gs_get hC hW in_X4 0 1 rfl rfl (by decide) fl_X4_15 rfl dX4_addEntry_5 ?_
  refine lv_iload_n hx hb dX4_addEntry_8 rfl (lv_at hl 1 rfl) ?_
  obtain ⟨s1, h1, hf⟩ := g_bnd hf
  refine gs_iast (ws' := w_X4_addEntry cI cZ cJ a_t a_t_entries a_t_parameterCounts a_t_lengths a_t_fields t_functionCount t_entryCount s1) hC hW 1 h1 rfl rfl dX4_addEntry_9 (fun H locs hW => ?_)
  refine lv_aload_n hx hb dX4_addEntry_10 rfl (lv_at hl 0 rfl) ?_
  refine lv_dup hx hb dX4_addEntry_11 rfl ?_
  refine gs_get hC hW in_X4 0 1 rfl rfl (by decide) fl_X4_15 rfl dX4_addEntry_12 ?_
  refine lv_iconst (v := 1) hx hb dX4_addEntry_15 (by decide) ?_
  refine lv_iadd hx hb dX4_addEntry_16 ?_
  refine gs_put (ws' := w_X4_addEntry cI cZ cJ a_t a_t_entries a_t_parameterCounts a_t_lengths a_t_fields t_functionCount (t_entryCount + 1) s1) hC hW in_X4 tyX4_ok nmX4 0 1 rfl rfl (by decide) fl_X4_15 rfl rfl rfl (Nat.le_of_ble_eq_true rfl) rfl dX4_addEntry_17 (fun H locs hW => ?_)
  refine lv_aload_n hx hb dX4_addEntry_20 rfl (lv_at hl 0 rfl) ?_
  refine gs_get hC hW in_X4 0 1 rfl rfl (by decide) fl_X4_15 rfl dX4_addEntry_21 ?_
  obtain rfl := Option.some.inj hf
  exact gs_ri hC hW rfl dX4_addEntry_24

abbrev w_X4_addCopyOf (cI cZ cJ : ClassId) (a_t : Nat) (a_t_parameterCounts : Nat) (a_t_lengths : Nat) (a_t_fields : Nat) (a_t_entries : Nat) (t_functionCount : Int32) (t_entryCount : Int32) (t_parameterCounts : Nat → Int32) (t_lengths : Nat → Int32) (t_fields : Nat → Int32) : va_W := [(a_t, .inr (4, [.int t_functionCount, .int t_entryCount, .ref a_t_parameterCounts, .ref a_t_lengths, .ref a_t_fields, .ref a_t_entries])), (a_t_parameterCounts, .inl (cI, 12, .inl t_parameterCounts)), (a_t_lengths, .inl (cI, 12, .inl t_lengths)), (a_t_fields, .inl (cI, 1152, .inl t_fields))]
abbrev r_X4_addCopyOf : Room := { frames := 1, cells := 0, slots := 0, locals := 48 }
def f_X4_addCopyOf (x1 : Int32) (t_functionCount : Int32) (t_parameterCounts : Nat → Int32) (t_lengths : Nat → Int32) (t_fields : Nat → Int32) : Option (Int32 × Int32 × (Nat → Int32) × (Nat → Int32) × (Nat → Int32)) := (g_rd 12 t_parameterCounts x1).bind (fun v1 => (f_X4_addFunction v1 t_functionCount t_parameterCounts t_lengths).bind (fun o2 => (g_rd 12 o2.2.2.2 x1).bind (fun v3 => (g_wr 12 o2.2.2.2 o2.1 v3).bind (fun s4 => (f_X4_startOf x1 0).bind (fun o5 => (f_X4_startOf o2.1 0).bind (fun o6 => (g_cp 1152 t_fields o5 1152 t_fields o6 96).bind (fun s7 => some (o2.1, o2.2.1, o2.2.2.1, s4, s7))))))))
set_option maxHeartbeats 4000000 in
set_option maxRecDepth 100000 in
theorem k_X4_addCopyOf (l : Launch) (tA : Nat) (dC : Nat → ClassId) (dI : Nat → Nat → Nat) (cI cZ cJ : ClassId) (a_t : Nat) (a_t_parameterCounts : Nat) (a_t_lengths : Nat) (a_t_fields : Nat) (a_t_entries : Nat) (x1 : Int32) (t_functionCount : Int32) (t_entryCount : Int32) (t_parameterCounts : Nat → Int32) (t_lengths : Nat → Int32) (t_fields : Nat → Int32) (out : Int32 × Int32 × (Nat → Int32) × (Nat → Int32) × (Nat → Int32)) (hf : f_X4_addCopyOf x1 t_functionCount t_parameterCounts t_lengths t_fields = some out) : g_Mi l yX4_addCopyOf cX4_addCopyOf 3 (some .int) r_X4_addCopyOf tA dC dI cI cZ cJ [.ref a_t, .int x1] (w_X4_addCopyOf cI cZ cJ a_t a_t_parameterCounts a_t_lengths a_t_fields a_t_entries t_functionCount t_entryCount t_parameterCounts t_lengths t_fields) (w_X4_addCopyOf cI cZ cJ a_t a_t_parameterCounts a_t_lengths a_t_fields a_t_entries out.2.1 t_entryCount out.2.2.1 out.2.2.2.1 out.2.2.2.2) out.1 := by
  unfold f_X4_addCopyOf at hf
  refine ge_i (by decide) (Nat.le_of_ble_eq_true rfl) (fun p e s m below meth c A H locs ls hC hW hl => ?_)
  have hC : g_C p s m meth c _ cX4_addCopyOf 3 (some .int) RX4 := hC
  have hx := hC.1
  have hb := hC.2.1
  have hown := hC.2.2.2.2.1
  have hts := hC.2.2.2.2.2.1
  have hl : lv_has ls 3 [(0, .ref a_t), (1, .int x1)] := hl
  refine lv_aload_n hx hb dX4_addCopyOf_0 rfl (lv_at hl 0 rfl) ?_
  refine lv_aload_n hx hb dX4_addCopyOf_1 rfl (lv_at hl 0 rfl) ?_
  refine gs_get hC hW in_X4 0 2 rfl rfl (by decide) fl_X4_18 rfl dX4_addCopyOf_2 ?_
  refine lv_iload_n hx hb dX4_addCopyOf_5 rfl (lv_at hl 1 rfl) ?_
  obtain ⟨v1, h1, hf⟩ := g_bnd hf
  refine gs_iald hC hW 1 h1 rfl dX4_addCopyOf_6 ?_
  obtain ⟨o2, h2, hf⟩ := g_bnd hf
  refine gs_callVi (ws' := w_X4_addCopyOf cI cZ cJ a_t a_t_parameterCounts a_t_lengths a_t_fields a_t_entries o2.2.1 t_entryCount o2.2.2.1 o2.2.2.2 t_fields) hC hW (k_X4_addFunction l tA dC dI cI cZ cJ a_t a_t_parameterCounts a_t_lengths a_t_fields a_t_entries v1 t_functionCount t_entryCount t_parameterCounts t_lengths _ h2) yk_X4_addFunction lk_X4_35 iv_X4_addFunction ⟨rfl, rfl⟩ ⟨Nat.le_of_ble_eq_true rfl, Nat.le_of_ble_eq_true rfl⟩ hl.1 0 rfl rfl [0, 1, 2] [3] [1, 2, 3, 0] rfl rfl rfl rfl (by decide) rfl rfl rfl rfl (Nat.le_of_ble_eq_true rfl) dX4_addCopyOf_7 ⟨Nat.zero_le _, Nat.zero_le _⟩ (fun H locs hW => ?_)
  refine lv_istore_n (lv' := [(2, .int o2.1), (0, .ref a_t), (1, .int x1)]) hx hb dX4_addCopyOf_10 rfl hl (by decide) rfl (fun ls hl => ?_)
  refine lv_aload_n hx hb dX4_addCopyOf_11 rfl (lv_at hl 1 rfl) ?_
  refine gs_get hC hW in_X4 0 3 rfl rfl (by decide) fl_X4_22 rfl dX4_addCopyOf_12 ?_
  refine lv_iload_n hx hb dX4_addCopyOf_15 rfl (lv_at hl 0 rfl) ?_
  refine lv_aload_n hx hb dX4_addCopyOf_16 rfl (lv_at hl 1 rfl) ?_
  refine gs_get hC hW in_X4 0 3 rfl rfl (by decide) fl_X4_22 rfl dX4_addCopyOf_17 ?_
  refine lv_iload_n hx hb dX4_addCopyOf_20 rfl (lv_at hl 2 rfl) ?_
  obtain ⟨v3, h3, hf⟩ := g_bnd hf
  refine gs_iald hC hW 2 h3 rfl dX4_addCopyOf_21 ?_
  obtain ⟨s4, h4, hf⟩ := g_bnd hf
  refine gs_iast (ws' := w_X4_addCopyOf cI cZ cJ a_t a_t_parameterCounts a_t_lengths a_t_fields a_t_entries o2.2.1 t_entryCount o2.2.2.1 s4 t_fields) hC hW 2 h4 rfl rfl dX4_addCopyOf_22 (fun H locs hW => ?_)
  refine lv_aload_n hx hb dX4_addCopyOf_23 rfl (lv_at hl 1 rfl) ?_
  refine gs_get hC hW in_X4 0 4 rfl rfl (by decide) fl_X4_25 rfl dX4_addCopyOf_24 ?_
  refine lv_iload_n hx hb dX4_addCopyOf_27 rfl (lv_at hl 2 rfl) ?_
  refine lv_iconst (v := 0) hx hb dX4_addCopyOf_28 (by decide) ?_
  obtain ⟨o5, h5, hf⟩ := g_bnd hf
  refine gs_callSi (ws' := w_X4_addCopyOf cI cZ cJ a_t a_t_parameterCounts a_t_lengths a_t_fields a_t_entries o2.2.1 t_entryCount o2.2.2.1 s4 t_fields) hC hW (k_X4_startOf l tA dC dI cI cZ cJ x1 0 _ h5) yk_X4_startOf lk_X4_39 is_X4_startOf ⟨rfl, rfl⟩ ⟨Nat.le_of_ble_eq_true rfl, Nat.le_of_ble_eq_true rfl⟩ hl.1 [] [0, 1, 2, 3] [0, 1, 2, 3] rfl rfl rfl rfl (by decide) rfl rfl rfl rfl (Nat.le_of_ble_eq_true rfl) dX4_addCopyOf_29 ⟨Nat.zero_le _, Nat.zero_le _⟩ (fun H locs hW => ?_)
  refine lv_aload_n hx hb dX4_addCopyOf_32 rfl (lv_at hl 1 rfl) ?_
  refine gs_get hC hW in_X4 0 4 rfl rfl (by decide) fl_X4_25 rfl dX4_addCopyOf_33 ?_
  refine lv_iload_n hx hb dX4_addCopyOf_36 rfl (lv_at hl 0 rfl) ?_
  refine lv_iconst (v := 0) hx hb dX4_addCopyOf_37 (by decide) ?_
  obtain ⟨o6, h6, hf⟩ := g_bnd hf
  refine gs_callSi (ws' := w_X4_addCopyOf cI cZ cJ a_t a_t_parameterCounts a_t_lengths a_t_fields a_t_entries o2.2.1 t_entryCount o2.2.2.1 s4 t_fields) hC hW (k_X4_startOf l tA dC dI cI cZ cJ o2.1 0 _ h6) yk_X4_startOf lk_X4_39 is_X4_startOf ⟨rfl, rfl⟩ ⟨Nat.le_of_ble_eq_true rfl, Nat.le_of_ble_eq_true rfl⟩ hl.1 [] [0, 1, 2, 3] [0, 1, 2, 3] rfl rfl rfl rfl (by decide) rfl rfl rfl rfl (Nat.le_of_ble_eq_true rfl) dX4_addCopyOf_38 ⟨Nat.zero_le _, Nat.zero_le _⟩ (fun H locs hW => ?_)
  refine lv_bipush (v := 96) hx hb dX4_addCopyOf_41 (by decide) ?_
  obtain ⟨s7, h7, hf⟩ := g_bnd hf
  refine gs_copy (ws' := w_X4_addCopyOf cI cZ cJ a_t a_t_parameterCounts a_t_lengths a_t_fields a_t_entries o2.2.1 t_entryCount o2.2.2.1 s4 s7) hC hW 3 3 h7 rfl rfl rfl hl.1 ac_lk_X4_43 ac_nat ac_st ac_in (by decide) (Nat.le_of_ble_eq_true rfl) dX4_addCopyOf_43 (fun H locs hW => ?_)
  refine lv_iload_n hx hb dX4_addCopyOf_46 rfl (lv_at hl 0 rfl) ?_
  obtain rfl := Option.some.inj hf
  exact gs_ri hC hW rfl dX4_addCopyOf_47

abbrev w_X4_becomeLike (cI cZ cJ : ClassId) (a_t : Nat) (a_t_parameterCounts : Nat) (a_t_lengths : Nat) (a_t_fields : Nat) (a_t_entries : Nat) (a_u : Nat) (a_u_parameterCounts : Nat) (a_u_lengths : Nat) (a_u_fields : Nat) (a_u_entries : Nat) (t_functionCount : Int32) (t_entryCount : Int32) (t_parameterCounts : Nat → Int32) (t_lengths : Nat → Int32) (t_fields : Nat → Int32) (t_entries : Nat → Int32) (u_functionCount : Int32) (u_entryCount : Int32) (u_parameterCounts : Nat → Int32) (u_lengths : Nat → Int32) (u_fields : Nat → Int32) (u_entries : Nat → Int32) : va_W := [(a_t, .inr (4, [.int t_functionCount, .int t_entryCount, .ref a_t_parameterCounts, .ref a_t_lengths, .ref a_t_fields, .ref a_t_entries])), (a_t_parameterCounts, .inl (cI, 12, .inl t_parameterCounts)), (a_t_lengths, .inl (cI, 12, .inl t_lengths)), (a_t_fields, .inl (cI, 1152, .inl t_fields)), (a_t_entries, .inl (cI, 4, .inl t_entries)), (a_u, .inr (4, [.int u_functionCount, .int u_entryCount, .ref a_u_parameterCounts, .ref a_u_lengths, .ref a_u_fields, .ref a_u_entries])), (a_u_parameterCounts, .inl (cI, 12, .inl u_parameterCounts)), (a_u_lengths, .inl (cI, 12, .inl u_lengths)), (a_u_fields, .inl (cI, 1152, .inl u_fields)), (a_u_entries, .inl (cI, 4, .inl u_entries))]
abbrev r_X4_becomeLike : Room := { frames := 1, cells := 0, slots := 0, locals := 48 }
def f_X4_becomeLike (t_functionCount : Int32) (t_entryCount : Int32) (t_parameterCounts : Nat → Int32) (t_lengths : Nat → Int32) (t_fields : Nat → Int32) (t_entries : Nat → Int32) (u_functionCount : Int32) (u_entryCount : Int32) (u_parameterCounts : Nat → Int32) (u_lengths : Nat → Int32) (u_fields : Nat → Int32) (u_entries : Nat → Int32) : Option (Int32 × Int32 × (Nat → Int32) × (Nat → Int32) × (Nat → Int32) × (Nat → Int32)) := (g_cp 12 u_parameterCounts 0 12 t_parameterCounts 0 12).bind (fun s1 => (g_cp 12 u_lengths 0 12 t_lengths 0 12).bind (fun s2 => (g_cp 1152 u_fields 0 1152 t_fields 0 1152).bind (fun s3 => (g_cp 4 u_entries 0 4 t_entries 0 4).bind (fun s4 => some (u_functionCount, u_entryCount, s1, s2, s3, s4)))))
set_option maxHeartbeats 4000000 in
set_option maxRecDepth 100000 in
theorem k_X4_becomeLike (l : Launch) (tA : Nat) (dC : Nat → ClassId) (dI : Nat → Nat → Nat) (cI cZ cJ : ClassId) (a_t : Nat) (a_t_parameterCounts : Nat) (a_t_lengths : Nat) (a_t_fields : Nat) (a_t_entries : Nat) (a_u : Nat) (a_u_parameterCounts : Nat) (a_u_lengths : Nat) (a_u_fields : Nat) (a_u_entries : Nat) (t_functionCount : Int32) (t_entryCount : Int32) (t_parameterCounts : Nat → Int32) (t_lengths : Nat → Int32) (t_fields : Nat → Int32) (t_entries : Nat → Int32) (u_functionCount : Int32) (u_entryCount : Int32) (u_parameterCounts : Nat → Int32) (u_lengths : Nat → Int32) (u_fields : Nat → Int32) (u_entries : Nat → Int32) (out : Int32 × Int32 × (Nat → Int32) × (Nat → Int32) × (Nat → Int32) × (Nat → Int32)) (hf : f_X4_becomeLike t_functionCount t_entryCount t_parameterCounts t_lengths t_fields t_entries u_functionCount u_entryCount u_parameterCounts u_lengths u_fields u_entries = some out) : g_Mv l yX4_becomeLike cX4_becomeLike 2 (none : Option Jvm.ClassFile.FieldType) r_X4_becomeLike tA dC dI cI cZ cJ [.ref a_t, .ref a_u] (w_X4_becomeLike cI cZ cJ a_t a_t_parameterCounts a_t_lengths a_t_fields a_t_entries a_u a_u_parameterCounts a_u_lengths a_u_fields a_u_entries t_functionCount t_entryCount t_parameterCounts t_lengths t_fields t_entries u_functionCount u_entryCount u_parameterCounts u_lengths u_fields u_entries) (w_X4_becomeLike cI cZ cJ a_t a_t_parameterCounts a_t_lengths a_t_fields a_t_entries a_u a_u_parameterCounts a_u_lengths a_u_fields a_u_entries out.1 out.2.1 out.2.2.1 out.2.2.2.1 out.2.2.2.2.1 out.2.2.2.2.2 u_functionCount u_entryCount u_parameterCounts u_lengths u_fields u_entries) := by
  unfold f_X4_becomeLike at hf
  refine ge_v (by decide) (Nat.le_of_ble_eq_true rfl) (fun p e s m below meth c A H locs ls hC hW hl => ?_)
  have hC : g_C p s m meth c _ cX4_becomeLike 2 (none : Option Jvm.ClassFile.FieldType) RX4 := hC
  have hx := hC.1
  have hb := hC.2.1
  have hown := hC.2.2.2.2.1
  have hts := hC.2.2.2.2.2.1
  have hl : lv_has ls 2 [(0, .ref a_t), (1, .ref a_u)] := hl
  refine lv_aload_n hx hb dX4_becomeLike_0 rfl (lv_at hl 0 rfl) ?_
  refine lv_aload_n hx hb dX4_becomeLike_1 rfl (lv_at hl 1 rfl) ?_
  refine gs_get hC hW in_X4 5 0 rfl rfl (by decide) fl_X4_9 rfl dX4_becomeLike_2 ?_
  refine gs_put (ws' := w_X4_becomeLike cI cZ cJ a_t a_t_parameterCounts a_t_lengths a_t_fields a_t_entries a_u a_u_parameterCounts a_u_lengths a_u_fields a_u_entries u_functionCount t_entryCount t_parameterCounts t_lengths t_fields t_entries u_functionCount u_entryCount u_parameterCounts u_lengths u_fields u_entries) hC hW in_X4 tyX4_ok nmX4 0 0 rfl rfl (by decide) fl_X4_9 rfl rfl rfl (Nat.le_of_ble_eq_true rfl) rfl dX4_becomeLike_5 (fun H locs hW => ?_)
  refine lv_aload_n hx hb dX4_becomeLike_8 rfl (lv_at hl 0 rfl) ?_
  refine lv_aload_n hx hb dX4_becomeLike_9 rfl (lv_at hl 1 rfl) ?_
  refine gs_get hC hW in_X4 5 1 rfl rfl (by decide) fl_X4_15 rfl dX4_becomeLike_10 ?_
  refine gs_put (ws' := w_X4_becomeLike cI cZ cJ a_t a_t_parameterCounts a_t_lengths a_t_fields a_t_entries a_u a_u_parameterCounts a_u_lengths a_u_fields a_u_entries u_functionCount u_entryCount t_parameterCounts t_lengths t_fields t_entries u_functionCount u_entryCount u_parameterCounts u_lengths u_fields u_entries) hC hW in_X4 tyX4_ok nmX4 0 1 rfl rfl (by decide) fl_X4_15 rfl rfl rfl (Nat.le_of_ble_eq_true rfl) rfl dX4_becomeLike_13 (fun H locs hW => ?_)
  refine lv_aload_n hx hb dX4_becomeLike_16 rfl (lv_at hl 1 rfl) ?_
  refine gs_get hC hW in_X4 5 2 rfl rfl (by decide) fl_X4_18 rfl dX4_becomeLike_17 ?_
  refine lv_iconst (v := 0) hx hb dX4_becomeLike_20 (by decide) ?_
  refine lv_aload_n hx hb dX4_becomeLike_21 rfl (lv_at hl 0 rfl) ?_
  refine gs_get hC hW in_X4 0 2 rfl rfl (by decide) fl_X4_18 rfl dX4_becomeLike_22 ?_
  refine lv_iconst (v := 0) hx hb dX4_becomeLike_25 (by decide) ?_
  refine lv_bipush (v := 12) hx hb dX4_becomeLike_26 (by decide) ?_
  obtain ⟨s1, h1, hf⟩ := g_bnd hf
  refine gs_copy (ws' := w_X4_becomeLike cI cZ cJ a_t a_t_parameterCounts a_t_lengths a_t_fields a_t_entries a_u a_u_parameterCounts a_u_lengths a_u_fields a_u_entries u_functionCount u_entryCount s1 t_lengths t_fields t_entries u_functionCount u_entryCount u_parameterCounts u_lengths u_fields u_entries) hC hW 6 1 h1 rfl rfl rfl hl.1 ac_lk_X4_43 ac_nat ac_st ac_in (by decide) (Nat.le_of_ble_eq_true rfl) dX4_becomeLike_28 (fun H locs hW => ?_)
  refine lv_aload_n hx hb dX4_becomeLike_31 rfl (lv_at hl 1 rfl) ?_
  refine gs_get hC hW in_X4 5 3 rfl rfl (by decide) fl_X4_22 rfl dX4_becomeLike_32 ?_
  refine lv_iconst (v := 0) hx hb dX4_becomeLike_35 (by decide) ?_
  refine lv_aload_n hx hb dX4_becomeLike_36 rfl (lv_at hl 0 rfl) ?_
  refine gs_get hC hW in_X4 0 3 rfl rfl (by decide) fl_X4_22 rfl dX4_becomeLike_37 ?_
  refine lv_iconst (v := 0) hx hb dX4_becomeLike_40 (by decide) ?_
  refine lv_bipush (v := 12) hx hb dX4_becomeLike_41 (by decide) ?_
  obtain ⟨s2, h2, hf⟩ := g_bnd hf
  refine gs_copy (ws' := w_X4_becomeLike cI cZ cJ a_t a_t_parameterCounts a_t_lengths a_t_fields a_t_entries a_u a_u_parameterCounts a_u_lengths a_u_fields a_u_entries u_functionCount u_entryCount s1 s2 t_fields t_entries u_functionCount u_entryCount u_parameterCounts u_lengths u_fields u_entries) hC hW 7 2 h2 rfl rfl rfl hl.1 ac_lk_X4_43 ac_nat ac_st ac_in (by decide) (Nat.le_of_ble_eq_true rfl) dX4_becomeLike_43 (fun H locs hW => ?_)
  refine lv_aload_n hx hb dX4_becomeLike_46 rfl (lv_at hl 1 rfl) ?_
  refine gs_get hC hW in_X4 5 4 rfl rfl (by decide) fl_X4_25 rfl dX4_becomeLike_47 ?_
  refine lv_iconst (v := 0) hx hb dX4_becomeLike_50 (by decide) ?_
  refine lv_aload_n hx hb dX4_becomeLike_51 rfl (lv_at hl 0 rfl) ?_
  refine gs_get hC hW in_X4 0 4 rfl rfl (by decide) fl_X4_25 rfl dX4_becomeLike_52 ?_
  refine lv_iconst (v := 0) hx hb dX4_becomeLike_55 (by decide) ?_
  refine lv_aload_n hx hb dX4_becomeLike_56 rfl (lv_at hl 0 rfl) ?_
  refine gs_get hC hW in_X4 0 4 rfl rfl (by decide) fl_X4_25 rfl dX4_becomeLike_57 ?_
  refine gs_len (v := 1152) hC hW 3 0 rfl rfl (by decide) dX4_becomeLike_60 ?_
  obtain ⟨s3, h3, hf⟩ := g_bnd hf
  refine gs_copy (ws' := w_X4_becomeLike cI cZ cJ a_t a_t_parameterCounts a_t_lengths a_t_fields a_t_entries a_u a_u_parameterCounts a_u_lengths a_u_fields a_u_entries u_functionCount u_entryCount s1 s2 s3 t_entries u_functionCount u_entryCount u_parameterCounts u_lengths u_fields u_entries) hC hW 8 3 h3 rfl rfl rfl hl.1 ac_lk_X4_43 ac_nat ac_st ac_in (by decide) (Nat.le_of_ble_eq_true rfl) dX4_becomeLike_61 (fun H locs hW => ?_)
  refine lv_aload_n hx hb dX4_becomeLike_64 rfl (lv_at hl 1 rfl) ?_
  refine gs_get hC hW in_X4 5 5 rfl rfl (by decide) fl_X4_28 rfl dX4_becomeLike_65 ?_
  refine lv_iconst (v := 0) hx hb dX4_becomeLike_68 (by decide) ?_
  refine lv_aload_n hx hb dX4_becomeLike_69 rfl (lv_at hl 0 rfl) ?_
  refine gs_get hC hW in_X4 0 5 rfl rfl (by decide) fl_X4_28 rfl dX4_becomeLike_70 ?_
  refine lv_iconst (v := 0) hx hb dX4_becomeLike_73 (by decide) ?_
  refine lv_iconst (v := 4) hx hb dX4_becomeLike_74 (by decide) ?_
  obtain ⟨s4, h4, hf⟩ := g_bnd hf
  refine gs_copy (ws' := w_X4_becomeLike cI cZ cJ a_t a_t_parameterCounts a_t_lengths a_t_fields a_t_entries a_u a_u_parameterCounts a_u_lengths a_u_fields a_u_entries u_functionCount u_entryCount s1 s2 s3 s4 u_functionCount u_entryCount u_parameterCounts u_lengths u_fields u_entries) hC hW 9 4 h4 rfl rfl rfl hl.1 ac_lk_X4_43 ac_nat ac_st ac_in (by decide) (Nat.le_of_ble_eq_true rfl) dX4_becomeLike_75 (fun H locs hW => ?_)
  obtain rfl := Option.some.inj hf
  exact gs_rv hC hW rfl dX4_becomeLike_78

abbrev w_X4_entryFor (cI cZ cJ : ClassId) (a_t : Nat) (a_t_entries : Nat) (a_t_parameterCounts : Nat) (a_t_lengths : Nat) (a_t_fields : Nat) (t_functionCount : Int32) (t_entryCount : Int32) (t_entries : Nat → Int32) : va_W := [(a_t, .inr (4, [.int t_functionCount, .int t_entryCount, .ref a_t_parameterCounts, .ref a_t_lengths, .ref a_t_fields, .ref a_t_entries])), (a_t_entries, .inl (cI, 4, .inl t_entries))]
abbrev r_X4_entryFor : Room := { frames := 1, cells := 0, slots := 0, locals := 22 }
def f_X4_entryFor (x1 : Int32) (t_entryCount : Int32) (t_entries : Nat → Int32) : Option (Int32) := if t_entryCount ≤ 0 then some (-1) else (f_J9_floorMod_7cf53 x1 t_entryCount).bind (fun o2 => (g_rd 4 t_entries o2).bind (fun v3 => some v3))
set_option maxHeartbeats 4000000 in
set_option maxRecDepth 100000 in
theorem k_X4_entryFor (l : Launch) (tA : Nat) (dC : Nat → ClassId) (dI : Nat → Nat → Nat) (cI cZ cJ : ClassId) (a_t : Nat) (a_t_entries : Nat) (a_t_parameterCounts : Nat) (a_t_lengths : Nat) (a_t_fields : Nat) (x1 : Int32) (t_functionCount : Int32) (t_entryCount : Int32) (t_entries : Nat → Int32) (out : Int32) (hf : f_X4_entryFor x1 t_entryCount t_entries = some out) : g_Mi l yX4_entryFor cX4_entryFor 2 (some .int) r_X4_entryFor tA dC dI cI cZ cJ [.ref a_t, .int x1] (w_X4_entryFor cI cZ cJ a_t a_t_entries a_t_parameterCounts a_t_lengths a_t_fields t_functionCount t_entryCount t_entries) (w_X4_entryFor cI cZ cJ a_t a_t_entries a_t_parameterCounts a_t_lengths a_t_fields t_functionCount t_entryCount t_entries) out := by
  unfold f_X4_entryFor at hf
  refine ge_i (by decide) (Nat.le_of_ble_eq_true rfl) (fun p e s m below meth c A H locs ls hC hW hl => ?_)
  have hC : g_C p s m meth c _ cX4_entryFor 2 (some .int) RX4 := hC
  have hx := hC.1
  have hb := hC.2.1
  have hown := hC.2.2.2.2.1
  have hts := hC.2.2.2.2.2.1
  have hl : lv_has ls 2 [(0, .ref a_t), (1, .int x1)] := hl
  refine lv_aload_n hx hb dX4_entryFor_0 rfl (lv_at hl 0 rfl) ?_
  refine gs_get hC hW in_X4 0 1 rfl rfl (by decide) fl_X4_15 rfl dX4_entryFor_1 ?_
  refine lv_if_le (tgt := 23) hx hb dX4_entryFor_4 (by decide) (fun c1 => ?_) (fun c1 => ?_)
  · replace hf := (if_pos c1).symm.trans hf
    refine lv_iconst (v := (-1)) hx hb dX4_entryFor_23 (by decide) ?_
    obtain rfl := Option.some.inj hf
    exact gs_ri hC hW rfl dX4_entryFor_24
  · replace hf := (if_neg c1).symm.trans hf
    refine lv_aload_n hx hb dX4_entryFor_7 rfl (lv_at hl 0 rfl) ?_
    refine gs_get hC hW in_X4 0 5 rfl rfl (by decide) fl_X4_28 rfl dX4_entryFor_8 ?_
    refine lv_iload_n hx hb dX4_entryFor_11 rfl (lv_at hl 1 rfl) ?_
    refine lv_aload_n hx hb dX4_entryFor_12 rfl (lv_at hl 0 rfl) ?_
    refine gs_get hC hW in_X4 0 1 rfl rfl (by decide) fl_X4_15 rfl dX4_entryFor_13 ?_
    obtain ⟨o2, h2, hf⟩ := g_bnd hf
    refine gs_callSi (ws' := w_X4_entryFor cI cZ cJ a_t a_t_entries a_t_parameterCounts a_t_lengths a_t_fields t_functionCount t_entryCount t_entries) hC hW (k_J9_floorMod_7cf53 l tA dC dI cI cZ cJ x1 t_entryCount _ h2) yk_J9_floorMod_7cf53 lk_X4_49 is_J9_floorMod_7cf53 ⟨rfl, rfl⟩ ⟨Nat.le_of_ble_eq_true rfl, Nat.le_of_ble_eq_true rfl⟩ hl.1 [] [0, 1] [0, 1] rfl rfl rfl rfl (by decide) rfl rfl rfl rfl (Nat.le_of_ble_eq_true rfl) dX4_entryFor_16 ⟨Nat.zero_le _, Nat.zero_le _⟩ (fun H locs hW => ?_)
    obtain ⟨v3, h3, hf⟩ := g_bnd hf
    refine gs_iald hC hW 1 h3 rfl dX4_entryFor_19 ?_
    refine lv_goto (tgt := 24) hx hb dX4_entryFor_20 (by decide) ?_
    obtain rfl := Option.some.inj hf
    exact gs_ri hC hW rfl dX4_entryFor_24
