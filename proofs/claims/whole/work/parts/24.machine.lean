theorem in_X2 : ∀ w ∈ wsX20, w ∈ gw := by decide +kernel
theorem fl_X2_23 : Cond.fieldLink RX2 23 (TX2 3).1 (TX2 3).2.1 (TX2 3).2.2.1 ∈ gw := gw_i 232 (by decide +kernel) rfl
theorem fl_X2_19 : Cond.fieldLink RX2 19 (TX2 2).1 (TX2 2).2.1 (TX2 2).2.2.1 ∈ gw := gw_i 231 (by decide +kernel) rfl
theorem fl_X2_39 : Cond.fieldLink RX2 39 (TX2 8).1 (TX2 8).2.1 (TX2 8).2.2.1 ∈ gw := gw_i 237 (by decide +kernel) rfl
theorem fl_X2_15 : Cond.fieldLink RX2 15 (TX2 1).1 (TX2 1).2.1 (TX2 1).2.2.1 ∈ gw := gw_i 230 (by decide +kernel) rfl
theorem fl_X2_36 : Cond.fieldLink RX2 36 (TX2 7).1 (TX2 7).2.1 (TX2 7).2.2.1 ∈ gw := gw_i 236 (by decide +kernel) rfl
theorem yk_X6_addCall : g_Y yX6_addCall cX6_addCall 7 (none : Option Jvm.ClassFile.FieldType) 3 := ⟨gw_i 704 (by decide +kernel) rfl, gw_i 62 (by decide +kernel) rfl, by decide +kernel, by decide +kernel, by decide +kernel⟩
theorem lk_X2_64 : Cond.methodLink RX2 64 yX6_addCall ∈ gw := gw_i 701 (by decide +kernel) rfl
theorem iv_X6_addCall : Cond.instanceMethod yX6_addCall ∈ gw ∧ Cond.selects RX6 yX6_addCall yX6_addCall ∈ gw := ⟨gw_i 702 (by decide +kernel) rfl, gw_i 703 (by decide +kernel) rfl⟩
theorem yk_X6_begin : g_Y yX6_begin cX6_begin 2 (none : Option Jvm.ClassFile.FieldType) 0 := ⟨gw_i 700 (by decide +kernel) rfl, gw_i 62 (by decide +kernel) rfl, by decide +kernel, by decide +kernel, by decide +kernel⟩
theorem lk_X2_63 : Cond.methodLink RX2 63 yX6_begin ∈ gw := gw_i 697 (by decide +kernel) rfl
theorem iv_X6_begin : Cond.instanceMethod yX6_begin ∈ gw ∧ Cond.selects RX6 yX6_begin yX6_begin ∈ gw := ⟨gw_i 698 (by decide +kernel) rfl, gw_i 699 (by decide +kernel) rfl⟩
theorem fl_X2_27 : Cond.fieldLink RX2 27 (TX2 4).1 (TX2 4).2.1 (TX2 4).2.2.1 ∈ gw := gw_i 233 (by decide +kernel) rfl
theorem fl_X2_30 : Cond.fieldLink RX2 30 (TX2 5).1 (TX2 5).2.1 (TX2 5).2.2.1 ∈ gw := gw_i 234 (by decide +kernel) rfl
theorem fl_X2_33 : Cond.fieldLink RX2 33 (TX2 6).1 (TX2 6).2.1 (TX2 6).2.2.1 ∈ gw := gw_i 235 (by decide +kernel) rfl
theorem fl_X2_9 : Cond.fieldLink RX2 9 (TX2 0).1 (TX2 0).2.1 (TX2 0).2.2.1 ∈ gw := gw_i 229 (by decide +kernel) rfl
theorem lk_X2_68 : Cond.methodLink RX2 68 yX4_fieldOf ∈ gw := gw_i 713 (by decide +kernel) rfl
theorem fl_X2_101 : Cond.fieldLink RX2 101 (TX4 2).1 (TX4 2).2.1 (TX4 2).2.2.1 ∈ gw := gw_i 96 (by decide +kernel) rfl
theorem yk_X2_valueOf : g_Y yX2_valueOf cX2_valueOf 4 (some .int) 2 := ⟨gw_i 721 (by decide +kernel) rfl, gw_i 63 (by decide +kernel) rfl, by decide +kernel, by decide +kernel, by decide +kernel⟩
theorem lk_X2_72 : Cond.methodLink RX2 72 yX2_valueOf ∈ gw := gw_i 718 (by decide +kernel) rfl
theorem iv_X2_valueOf : Cond.instanceMethod yX2_valueOf ∈ gw ∧ Cond.selects RX2 yX2_valueOf yX2_valueOf ∈ gw := ⟨gw_i 720 (by decide +kernel) rfl, gw_i 25 (by decide +kernel) rfl⟩
theorem lk_X2_97 : Cond.methodLink RX2 97 yX4_entryFor ∈ gw := gw_i 738 (by decide +kernel) rfl
theorem yk_X2_enterCall : g_Y yX2_enterCall cX2_enterCall 7 (some .boolean) 4 := ⟨gw_i 733 (by decide +kernel) rfl, gw_i 63 (by decide +kernel) rfl, by decide +kernel, by decide +kernel, by decide +kernel⟩
theorem lk_X2_88 : Cond.methodLink RX2 88 yX2_enterCall ∈ gw := gw_i 730 (by decide +kernel) rfl
theorem iv_X2_enterCall : Cond.instanceMethod yX2_enterCall ∈ gw ∧ Cond.selects RX2 yX2_enterCall yX2_enterCall ∈ gw := ⟨gw_i 732 (by decide +kernel) rfl, gw_i 27 (by decide +kernel) rfl⟩
theorem yk_X2_finish : g_Y yX2_finish cX2_finish 5 (some .boolean) 4 := ⟨gw_i 712 (by decide +kernel) rfl, gw_i 63 (by decide +kernel) rfl, by decide +kernel, by decide +kernel, by decide +kernel⟩
theorem lk_X2_80 : Cond.methodLink RX2 80 yX2_finish ∈ gw := gw_i 709 (by decide +kernel) rfl
theorem iv_X2_finish : Cond.instanceMethod yX2_finish ∈ gw ∧ Cond.selects RX2 yX2_finish yX2_finish ∈ gw := ⟨gw_i 711 (by decide +kernel) rfl, gw_i 23 (by decide +kernel) rfl⟩
theorem yk_X2_nextInput : g_Y yX2_nextInput cX2_nextInput 2 (some .int) 0 := ⟨gw_i 725 (by decide +kernel) rfl, gw_i 63 (by decide +kernel) rfl, by decide +kernel, by decide +kernel, by decide +kernel⟩
theorem lk_X2_76 : Cond.methodLink RX2 76 yX2_nextInput ∈ gw := gw_i 722 (by decide +kernel) rfl
theorem iv_X2_nextInput : Cond.instanceMethod yX2_nextInput ∈ gw ∧ Cond.selects RX2 yX2_nextInput yX2_nextInput ∈ gw := ⟨gw_i 724 (by decide +kernel) rfl, gw_i 26 (by decide +kernel) rfl⟩
theorem yk_X6_addOutput : g_Y yX6_addOutput cX6_addOutput 2 (some .boolean) 1 := ⟨gw_i 729 (by decide +kernel) rfl, gw_i 62 (by decide +kernel) rfl, by decide +kernel, by decide +kernel, by decide +kernel⟩
theorem lk_X2_84 : Cond.methodLink RX2 84 yX6_addOutput ∈ gw := gw_i 726 (by decide +kernel) rfl
theorem iv_X6_addOutput : Cond.instanceMethod yX6_addOutput ∈ gw ∧ Cond.selects RX6 yX6_addOutput yX6_addOutput ∈ gw := ⟨gw_i 727 (by decide +kernel) rfl, gw_i 728 (by decide +kernel) rfl⟩
theorem yk_X2_leaveCall : g_Y yX2_leaveCall cX2_leaveCall 3 (none : Option Jvm.ClassFile.FieldType) 1 := ⟨gw_i 708 (by decide +kernel) rfl, gw_i 63 (by decide +kernel) rfl, by decide +kernel, by decide +kernel, by decide +kernel⟩
theorem lk_X2_50 : Cond.methodLink RX2 50 yX2_leaveCall ∈ gw := gw_i 705 (by decide +kernel) rfl
theorem iv_X2_leaveCall : Cond.instanceMethod yX2_leaveCall ∈ gw ∧ Cond.selects RX2 yX2_leaveCall yX2_leaveCall ∈ gw := ⟨gw_i 707 (by decide +kernel) rfl, gw_i 22 (by decide +kernel) rfl⟩
theorem yk_X2_doTableCall : g_Y yX2_doTableCall cX2_doTableCall 5 (some .boolean) 3 := ⟨gw_i 737 (by decide +kernel) rfl, gw_i 63 (by decide +kernel) rfl, by decide +kernel, by decide +kernel, by decide +kernel⟩
theorem lk_X2_91 : Cond.methodLink RX2 91 yX2_doTableCall ∈ gw := gw_i 734 (by decide +kernel) rfl
theorem iv_X2_doTableCall : Cond.instanceMethod yX2_doTableCall ∈ gw ∧ Cond.selects RX2 yX2_doTableCall yX2_doTableCall ∈ gw := ⟨gw_i 736 (by decide +kernel) rfl, gw_i 28 (by decide +kernel) rfl⟩
theorem ln_X2_94 : Cond.methodLinkNest RX2 94 yX7_compute RX7 ∈ gn := gn_i 739 (by decide +kernel) rfl
theorem fl_X2_45 : Cond.fieldLink RX2 45 (TX4 3).1 (TX4 3).2.1 (TX4 3).2.2.1 ∈ gw := gw_i 101 (by decide +kernel) rfl
theorem fl_X2_54 : Cond.fieldLink RX2 54 (TX6 0).1 (TX6 0).2.1 (TX6 0).2.2.1 ∈ gw := gw_i 198 (by decide +kernel) rfl
theorem yk_X2_doStatement : g_Y yX2_doStatement cX2_doStatement 7 (some .boolean) 3 := ⟨gw_i 717 (by decide +kernel) rfl, gw_i 63 (by decide +kernel) rfl, by decide +kernel, by decide +kernel, by decide +kernel⟩
theorem lk_X2_59 : Cond.methodLink RX2 59 yX2_doStatement ∈ gw := gw_i 714 (by decide +kernel) rfl
theorem iv_X2_doStatement : Cond.instanceMethod yX2_doStatement ∈ gw ∧ Cond.selects RX2 yX2_doStatement yX2_doStatement ∈ gw := ⟨gw_i 716 (by decide +kernel) rfl, gw_i 24 (by decide +kernel) rfl⟩
theorem yk_X2_begin : g_Y yX2_begin cX2_begin 2 (none : Option Jvm.ClassFile.FieldType) 0 := ⟨gw_i 696 (by decide +kernel) rfl, gw_i 63 (by decide +kernel) rfl, by decide +kernel, by decide +kernel, by decide +kernel⟩
theorem lk_X2_42 : Cond.methodLink RX2 42 yX2_begin ∈ gw := gw_i 693 (by decide +kernel) rfl
theorem iv_X2_begin : Cond.instanceMethod yX2_begin ∈ gw ∧ Cond.selects RX2 yX2_begin yX2_begin ∈ gw := ⟨gw_i 695 (by decide +kernel) rfl, gw_i 21 (by decide +kernel) rfl⟩
abbrev w_X2_addInput (cI cZ cJ : ClassId) (a_t : Nat) (a_t_inputs : Nat) (a_tp : Nat) (a_ty : Nat) (a_t_openFunctions : Nat) (a_t_openStatements : Nat) (a_t_registers : Nat) (t_inputCount : Int32) (t_inputsRead : Int32) (t_openCount : Int32) (t_inputs : Nat → Int32) : va_W := [(a_t, .inr (2, [.ref a_tp, .ref a_ty, .ref a_t_inputs, .int t_inputCount, .int t_inputsRead, .ref a_t_openFunctions, .ref a_t_openStatements, .ref a_t_registers, .int t_openCount])), (a_t_inputs, .inl (cI, 12, .inl t_inputs))]
abbrev r_X2_addInput : Room := { frames := 0, cells := 0, slots := 0, locals := 0 }
def f_X2_addInput (x1 : Int32) (t_inputCount : Int32) (t_inputs : Nat → Int32) : Option (Int32 × Int32 × (Nat → Int32)) := if t_inputCount < 12 then (g_wr 12 t_inputs t_inputCount x1).bind (fun s2 => some ((t_inputCount + 1), t_inputCount + 1, s2)) else some ((-1), t_inputCount, t_inputs)
set_option maxHeartbeats 4000000 in
set_option maxRecDepth 100000 in
theorem k_X2_addInput (l : Launch) (tA : Nat) (dC : Nat → ClassId) (dI : Nat → Nat → Nat) (cI cZ cJ : ClassId) (a_t : Nat) (a_t_inputs : Nat) (a_tp : Nat) (a_ty : Nat) (a_t_openFunctions : Nat) (a_t_openStatements : Nat) (a_t_registers : Nat) (x1 : Int32) (t_inputCount : Int32) (t_inputsRead : Int32) (t_openCount : Int32) (t_inputs : Nat → Int32) (out : Int32 × Int32 × (Nat → Int32)) (hf : f_X2_addInput x1 t_inputCount t_inputs = some out) : g_Mi l yX2_addInput cX2_addInput 2 (some .int) r_X2_addInput tA dC dI cI cZ cJ [.ref a_t, .int x1] (w_X2_addInput cI cZ cJ a_t a_t_inputs a_tp a_ty a_t_openFunctions a_t_openStatements a_t_registers t_inputCount t_inputsRead t_openCount t_inputs) (w_X2_addInput cI cZ cJ a_t a_t_inputs a_tp a_ty a_t_openFunctions a_t_openStatements a_t_registers out.2.1 t_inputsRead t_openCount out.2.2) out.1 := by
  unfold f_X2_addInput at hf
  refine ge_i (by decide) (Nat.le_of_ble_eq_true rfl) (fun p e s m below meth c A H locs ls hC hW hl => ?_)
  have hC : g_C p s m meth c _ cX2_addInput 2 (some .int) RX2 := hC
  have hx := hC.1
  have hb := hC.2.1
  have hown := hC.2.2.2.2.1
  have hts := hC.2.2.2.2.2.1
  have hl : lv_has ls 2 [(0, .ref a_t), (1, .int x1)] := hl
  refine lv_aload_n hx hb dX2_addInput_0 rfl (lv_at hl 0 rfl) ?_
  refine gs_get hC hW in_X2 0 3 rfl rfl (by decide) fl_X2_23 rfl dX2_addInput_1 ?_
  refine lv_bipush (v := 12) hx hb dX2_addInput_4 (by decide) ?_
  refine lv_icmp_lt (tgt := 11) hx hb dX2_addInput_6 (by decide) (fun c1 => ?_) (fun c1 => ?_)
  · replace hf := (if_pos c1).symm.trans hf
    refine lv_aload_n hx hb dX2_addInput_11 rfl (lv_at hl 0 rfl) ?_
    refine gs_get hC hW in_X2 0 2 rfl rfl (by decide) fl_X2_19 rfl dX2_addInput_12 ?_
    refine lv_aload_n hx hb dX2_addInput_15 rfl (lv_at hl 0 rfl) ?_
    refine gs_get hC hW in_X2 0 3 rfl rfl (by decide) fl_X2_23 rfl dX2_addInput_16 ?_
    refine lv_iload_n hx hb dX2_addInput_19 rfl (lv_at hl 1 rfl) ?_
    obtain ⟨s2, h2, hf⟩ := g_bnd hf
    refine gs_iast (ws' := w_X2_addInput cI cZ cJ a_t a_t_inputs a_tp a_ty a_t_openFunctions a_t_openStatements a_t_registers t_inputCount t_inputsRead t_openCount s2) hC hW 1 h2 rfl rfl dX2_addInput_20 (fun H locs hW => ?_)
    refine lv_aload_n hx hb dX2_addInput_21 rfl (lv_at hl 0 rfl) ?_
    refine lv_dup hx hb dX2_addInput_22 rfl ?_
    refine gs_get hC hW in_X2 0 3 rfl rfl (by decide) fl_X2_23 rfl dX2_addInput_23 ?_
    refine lv_iconst (v := 1) hx hb dX2_addInput_26 (by decide) ?_
    refine lv_iadd hx hb dX2_addInput_27 ?_
    refine gs_put (ws' := w_X2_addInput cI cZ cJ a_t a_t_inputs a_tp a_ty a_t_openFunctions a_t_openStatements a_t_registers (t_inputCount + 1) t_inputsRead t_openCount s2) hC hW in_X2 tyX2_ok nmX2 0 3 rfl rfl (by decide) fl_X2_23 rfl rfl rfl (Nat.le_of_ble_eq_true rfl) rfl dX2_addInput_28 (fun H locs hW => ?_)
    refine lv_aload_n hx hb dX2_addInput_31 rfl (lv_at hl 0 rfl) ?_
    refine gs_get hC hW in_X2 0 3 rfl rfl (by decide) fl_X2_23 rfl dX2_addInput_32 ?_
    obtain rfl := Option.some.inj hf
    exact gs_ri hC hW rfl dX2_addInput_35
  · replace hf := (if_neg c1).symm.trans hf
    refine lv_iconst (v := (-1)) hx hb dX2_addInput_9 (by decide) ?_
    obtain rfl := Option.some.inj hf
    exact gs_ri hC hW rfl dX2_addInput_10

abbrev w_X2_dropInputs (cI cZ cJ : ClassId) (a_t : Nat) (a_tp : Nat) (a_ty : Nat) (a_t_inputs : Nat) (a_t_openFunctions : Nat) (a_t_openStatements : Nat) (a_t_registers : Nat) (t_inputCount : Int32) (t_inputsRead : Int32) (t_openCount : Int32) : va_W := [(a_t, .inr (2, [.ref a_tp, .ref a_ty, .ref a_t_inputs, .int t_inputCount, .int t_inputsRead, .ref a_t_openFunctions, .ref a_t_openStatements, .ref a_t_registers, .int t_openCount]))]
abbrev r_X2_dropInputs : Room := { frames := 0, cells := 0, slots := 0, locals := 0 }
def f_X2_dropInputs (t_inputCount : Int32) : Option (Int32) := some 0
set_option maxHeartbeats 4000000 in
set_option maxRecDepth 100000 in
theorem k_X2_dropInputs (l : Launch) (tA : Nat) (dC : Nat → ClassId) (dI : Nat → Nat → Nat) (cI cZ cJ : ClassId) (a_t : Nat) (a_tp : Nat) (a_ty : Nat) (a_t_inputs : Nat) (a_t_openFunctions : Nat) (a_t_openStatements : Nat) (a_t_registers : Nat) (t_inputCount : Int32) (t_inputsRead : Int32) (t_openCount : Int32) (out : Int32) (hf : f_X2_dropInputs t_inputCount = some out) : g_Mv l yX2_dropInputs cX2_dropInputs 1 (none : Option Jvm.ClassFile.FieldType) r_X2_dropInputs tA dC dI cI cZ cJ [.ref a_t] (w_X2_dropInputs cI cZ cJ a_t a_tp a_ty a_t_inputs a_t_openFunctions a_t_openStatements a_t_registers t_inputCount t_inputsRead t_openCount) (w_X2_dropInputs cI cZ cJ a_t a_tp a_ty a_t_inputs a_t_openFunctions a_t_openStatements a_t_registers out t_inputsRead t_openCount) := by
  unfold f_X2_dropInputs at hf
  refine ge_v (by decide) (Nat.le_of_ble_eq_true rfl) (fun p e s m below meth c A H locs ls hC hW hl => ?_)
  have hC : g_C p s m meth c _ cX2_dropInputs 1 (none : Option Jvm.ClassFile.FieldType) RX2 := hC
  have hx := hC.1
  have hb := hC.2.1
  have hown := hC.2.2.2.2.1
  have hts := hC.2.2.2.2.2.1
  have hl : lv_has ls 1 [(0, .ref a_t)] := hl
  refine lv_aload_n hx hb dX2_dropInputs_0 rfl (lv_at hl 0 rfl) ?_
  refine lv_iconst (v := 0) hx hb dX2_dropInputs_1 (by decide) ?_
  refine gs_put (ws' := w_X2_dropInputs cI cZ cJ a_t a_tp a_ty a_t_inputs a_t_openFunctions a_t_openStatements a_t_registers 0 t_inputsRead t_openCount) hC hW in_X2 tyX2_ok nmX2 0 3 rfl rfl (by decide) fl_X2_23 rfl rfl rfl (Nat.le_of_ble_eq_true rfl) rfl dX2_dropInputs_2 (fun H locs hW => ?_)
  obtain rfl := Option.some.inj hf
  exact gs_rv hC hW rfl dX2_dropInputs_5

abbrev w_X2_begin (cI cZ cJ : ClassId) (a_t : Nat) (a_ty : Nat) (a_ty_callCounts : Nat) (a_ty_latestValues : Nat) (a_ty_differing : Nat) (a_t_openFunctions : Nat) (a_t_openStatements : Nat) (a_t_registers : Nat) (a_tp : Nat) (a_t_inputs : Nat) (a_ty_outputValues : Nat) (t_inputCount : Int32) (t_inputsRead : Int32) (t_openCount : Int32) (ty_doneCount : Int32) (ty_outputCount : Int32) (ty_callCounts : Nat → Int32) (ty_latestValues : Nat → Int32) (ty_differing : Nat → Int32) (t_openFunctions : Nat → Int32) (t_openStatements : Nat → Int32) (t_registers : Nat → Int32) : va_W := [(a_t, .inr (2, [.ref a_tp, .ref a_ty, .ref a_t_inputs, .int t_inputCount, .int t_inputsRead, .ref a_t_openFunctions, .ref a_t_openStatements, .ref a_t_registers, .int t_openCount])), (a_ty, .inr (6, [.int ty_doneCount, .int ty_outputCount, .ref a_ty_outputValues, .ref a_ty_callCounts, .ref a_ty_latestValues, .ref a_ty_differing])), (a_ty_callCounts, .inl (cI, 12, .inl ty_callCounts)), (a_ty_latestValues, .inl (cI, 36, .inl ty_latestValues)), (a_ty_differing, .inl (cZ, 36, .inl ty_differing)), (a_t_openFunctions, .inl (cI, 11, .inl t_openFunctions)), (a_t_openStatements, .inl (cI, 11, .inl t_openStatements)), (a_t_registers, .inl (cI, 66, .inl t_registers))]
abbrev r_X2_begin : Room := { frames := 1, cells := 0, slots := 0, locals := 26 }
def f_X2_begin_28 (N : Nat) : Nat → Int32 → Int32 → Int32 → Int32 → Int32 → (Nat → Int32) → (Nat → Int32) → (Nat → Int32) → (Nat → Int32) → (Nat → Int32) → (Nat → Int32) → Option (Int32 × Int32 × Int32 × Int32 × (Nat → Int32) × (Nat → Int32) × (Nat → Int32) × (Nat → Int32) × (Nat → Int32) × (Nat → Int32))
  | 0, _, _, _, _, _, _, _, _, _, _, _ => none
  | n + 1, x1, t_inputsRead, t_openCount, ty_doneCount, ty_outputCount, ty_callCounts, ty_latestValues, ty_differing, t_openFunctions, t_openStatements, t_registers => if 6 ≤ x1 then (f_X6_addCall N 0 0 ty_callCounts ty_latestValues ty_differing t_registers).bind (fun o2 => some (t_inputsRead, 1, ty_doneCount, ty_outputCount, o2.1, o2.2.1, o2.2.2, t_openFunctions, t_openStatements, t_registers)) else (g_wr 66 t_registers x1 0).bind (fun s3 => f_X2_begin_28 N n (x1 + 1) t_inputsRead t_openCount ty_doneCount ty_outputCount ty_callCounts ty_latestValues ty_differing t_openFunctions t_openStatements s3)
set_option maxHeartbeats 4000000 in
set_option maxRecDepth 100000 in
theorem b_X2_begin_28 {p : Program} {l : Launch} {e : Env} {s : State} {m : MethodId} {args : Array Value} {below : List Frame} {meth : Method} {c : Code} {tA : Nat} {dC : Nat → ClassId} {dI : Nat → Nat → Nat} {cI cZ cJ : ClassId} {A : Nat → Prop} {a_t : Nat} {a_ty : Nat} {a_ty_callCounts : Nat} {a_ty_latestValues : Nat} {a_ty_differing : Nat} {a_t_openFunctions : Nat} {a_t_openStatements : Nat} {a_t_registers : Nat} {a_tp : Nat} {a_t_inputs : Nat} {a_ty_outputValues : Nat} {t_inputCount : Int32} {N : Nat} (hC : g_C p s m meth c args cX2_begin 2 (none : Option Jvm.ClassFile.FieldType) RX2) :
    ∀ (n : Nat) (x1 : Int32) (t_inputsRead : Int32) (t_openCount : Int32) (ty_doneCount : Int32) (ty_outputCount : Int32) (ty_callCounts : Nat → Int32) (ty_latestValues : Nat → Int32) (ty_differing : Nat → Int32) (t_openFunctions : Nat → Int32) (t_openStatements : Nat → Int32) (t_registers : Nat → Int32) (out : Int32 × Int32 × Int32 × Int32 × (Nat → Int32) × (Nat → Int32) × (Nat → Int32) × (Nat → Int32) × (Nat → Int32) × (Nat → Int32)), f_X2_begin_28 N n x1 t_inputsRead t_openCount ty_doneCount ty_outputCount ty_callCounts ty_latestValues ty_differing t_openFunctions t_openStatements t_registers = some out → ∀ (H : Heap) (locs : List Loc) (ls : Array Slot), g_W tA dC dI cI cZ cJ A s H locs (w_X2_begin cI cZ cJ a_t a_ty a_ty_callCounts a_ty_latestValues a_ty_differing a_t_openFunctions a_t_openStatements a_t_registers a_tp a_t_inputs a_ty_outputValues t_inputCount t_inputsRead t_openCount ty_doneCount ty_outputCount ty_callCounts ty_latestValues ty_differing t_openFunctions t_openStatements t_registers) → lv_has ls 2 [(0, .ref a_t), (1, .int x1)] → W p l e r_X2_begin s m args below meth c H locs 0 0 (MQ below (g_Qv dC dI cI cZ cJ A (w_X2_begin cI cZ cJ a_t a_ty a_ty_callCounts a_ty_latestValues a_ty_differing a_t_openFunctions a_t_openStatements a_t_registers a_tp a_t_inputs a_ty_outputValues t_inputCount out.1 out.2.1 out.2.2.1 out.2.2.2.1 out.2.2.2.2.1 out.2.2.2.2.2.1 out.2.2.2.2.2.2.1 out.2.2.2.2.2.2.2.1 out.2.2.2.2.2.2.2.2.1 out.2.2.2.2.2.2.2.2.2)) args s 0 0 A) (F0 m 28 ls []) := by
  have hx := hC.1
  have hb := hC.2.1
  have hown := hC.2.2.2.2.1
  have hts := hC.2.2.2.2.2.1
  intro n
  induction n with
  | zero =>
    intro x1 t_inputsRead t_openCount ty_doneCount ty_outputCount ty_callCounts ty_latestValues ty_differing t_openFunctions t_openStatements t_registers out hf
    exact g_no hf
  | succ n ih =>
    intro x1 t_inputsRead t_openCount ty_doneCount ty_outputCount ty_callCounts ty_latestValues ty_differing t_openFunctions t_openStatements t_registers out hf H locs ls hW hl
    refine lv_iload_n hx hb dX2_begin_28 rfl (lv_at hl 1 rfl) ?_
    refine lv_bipush (v := 6) hx hb dX2_begin_29 (by decide) ?_
    refine lv_icmp_ge (tgt := 47) hx hb dX2_begin_31 (by decide) (fun c1 => ?_) (fun c1 => ?_)
    · replace hf := (if_pos c1).symm.trans hf
      refine lv_aload_n hx hb dX2_begin_47 rfl (lv_at hl 0 rfl) ?_
      refine lv_iconst (v := 1) hx hb dX2_begin_48 (by decide) ?_
      refine gs_put (ws' := w_X2_begin cI cZ cJ a_t a_ty a_ty_callCounts a_ty_latestValues a_ty_differing a_t_openFunctions a_t_openStatements a_t_registers a_tp a_t_inputs a_ty_outputValues t_inputCount t_inputsRead 1 ty_doneCount ty_outputCount ty_callCounts ty_latestValues ty_differing t_openFunctions t_openStatements t_registers) hC hW in_X2 tyX2_ok nmX2 0 8 rfl rfl (by decide) fl_X2_39 rfl rfl rfl (Nat.le_of_ble_eq_true rfl) rfl dX2_begin_49 (fun H locs hW => ?_)
      refine lv_aload_n hx hb dX2_begin_52 rfl (lv_at hl 0 rfl) ?_
      refine gs_get hC hW in_X2 0 1 rfl rfl (by decide) fl_X2_15 rfl dX2_begin_53 ?_
      refine lv_iconst (v := 0) hx hb dX2_begin_56 (by decide) ?_
      refine lv_aload_n hx hb dX2_begin_57 rfl (lv_at hl 0 rfl) ?_
      refine gs_get hC hW in_X2 0 7 rfl rfl (by decide) fl_X2_36 rfl dX2_begin_58 ?_
      refine lv_iconst (v := 0) hx hb dX2_begin_61 (by decide) ?_
      obtain ⟨o2, h2, hf⟩ := g_bnd hf
      refine gs_callVv (ws' := w_X2_begin cI cZ cJ a_t a_ty a_ty_callCounts a_ty_latestValues a_ty_differing a_t_openFunctions a_t_openStatements a_t_registers a_tp a_t_inputs a_ty_outputValues t_inputCount t_inputsRead 1 ty_doneCount ty_outputCount o2.1 o2.2.1 o2.2.2 t_openFunctions t_openStatements t_registers) hC hW (k_X6_addCall l tA dC dI cI cZ cJ a_ty a_ty_callCounts a_ty_latestValues a_ty_differing a_t_registers a_ty_outputValues N 0 0 ty_doneCount ty_outputCount ty_callCounts ty_latestValues ty_differing t_registers _ h2) yk_X6_addCall lk_X2_64 iv_X6_addCall ⟨rfl, rfl⟩ ⟨Nat.le_of_ble_eq_true rfl, Nat.le_of_ble_eq_true rfl⟩ hl.1 1 rfl rfl [1, 2, 3, 4, 7] [0, 5, 6] [0, 3, 4, 5, 6, 1, 2, 7] rfl rfl rfl rfl (by decide) rfl rfl rfl rfl (Nat.le_of_ble_eq_true rfl) dX2_begin_62 ⟨Nat.zero_le _, Nat.zero_le _⟩ (fun H locs hW => ?_)
      obtain rfl := Option.some.inj hf
      exact gs_rv hC hW rfl dX2_begin_65
    · replace hf := (if_neg c1).symm.trans hf
      refine lv_aload_n hx hb dX2_begin_34 rfl (lv_at hl 0 rfl) ?_
      refine gs_get hC hW in_X2 0 7 rfl rfl (by decide) fl_X2_36 rfl dX2_begin_35 ?_
      refine lv_iload_n hx hb dX2_begin_38 rfl (lv_at hl 1 rfl) ?_
      refine lv_iconst (v := 0) hx hb dX2_begin_39 (by decide) ?_
      obtain ⟨s3, h3, hf⟩ := g_bnd hf
      refine gs_iast (ws' := w_X2_begin cI cZ cJ a_t a_ty a_ty_callCounts a_ty_latestValues a_ty_differing a_t_openFunctions a_t_openStatements a_t_registers a_tp a_t_inputs a_ty_outputValues t_inputCount t_inputsRead t_openCount ty_doneCount ty_outputCount ty_callCounts ty_latestValues ty_differing t_openFunctions t_openStatements s3) hC hW 7 h3 rfl rfl dX2_begin_40 (fun H locs hW => ?_)
      refine lv_iinc (v := x1 + 1) (lv' := [(1, .int (x1 + 1)), (0, .ref a_t)]) hx hb dX2_begin_41 hl (k := 1) rfl rfl (by decide) rfl (fun ls hl => ?_)
      refine lv_goto (tgt := 28) hx hb dX2_begin_44 (by decide) ?_
      exact ih _ _ _ _ _ _ _ _ _ _ _ _ hf _ _ _ hW (lv_sub hl [1, 0] rfl)
def f_X2_begin (N : Nat) (t_inputsRead : Int32) (t_openCount : Int32) (ty_doneCount : Int32) (ty_outputCount : Int32) (ty_callCounts : Nat → Int32) (ty_latestValues : Nat → Int32) (ty_differing : Nat → Int32) (t_openFunctions : Nat → Int32) (t_openStatements : Nat → Int32) (t_registers : Nat → Int32) : Option (Int32 × Int32 × Int32 × Int32 × (Nat → Int32) × (Nat → Int32) × (Nat → Int32) × (Nat → Int32) × (Nat → Int32) × (Nat → Int32)) := (f_X6_begin N ty_doneCount ty_outputCount ty_callCounts ty_latestValues ty_differing).bind (fun o4 => (g_wr 11 t_openFunctions 0 0).bind (fun s5 => (g_wr 11 t_openStatements 0 0).bind (fun s6 => f_X2_begin_28 N N 0 0 t_openCount o4.1 o4.2.1 o4.2.2.1 o4.2.2.2.1 o4.2.2.2.2 s5 s6 t_registers)))
set_option maxHeartbeats 4000000 in
set_option maxRecDepth 100000 in
theorem k_X2_begin (l : Launch) (tA : Nat) (dC : Nat → ClassId) (dI : Nat → Nat → Nat) (cI cZ cJ : ClassId) (a_t : Nat) (a_ty : Nat) (a_ty_callCounts : Nat) (a_ty_latestValues : Nat) (a_ty_differing : Nat) (a_t_openFunctions : Nat) (a_t_openStatements : Nat) (a_t_registers : Nat) (a_tp : Nat) (a_t_inputs : Nat) (a_ty_outputValues : Nat) (N : Nat) (t_inputCount : Int32) (t_inputsRead : Int32) (t_openCount : Int32) (ty_doneCount : Int32) (ty_outputCount : Int32) (ty_callCounts : Nat → Int32) (ty_latestValues : Nat → Int32) (ty_differing : Nat → Int32) (t_openFunctions : Nat → Int32) (t_openStatements : Nat → Int32) (t_registers : Nat → Int32) (out : Int32 × Int32 × Int32 × Int32 × (Nat → Int32) × (Nat → Int32) × (Nat → Int32) × (Nat → Int32) × (Nat → Int32) × (Nat → Int32)) (hf : f_X2_begin N t_inputsRead t_openCount ty_doneCount ty_outputCount ty_callCounts ty_latestValues ty_differing t_openFunctions t_openStatements t_registers = some out) : g_Mv l yX2_begin cX2_begin 2 (none : Option Jvm.ClassFile.FieldType) r_X2_begin tA dC dI cI cZ cJ [.ref a_t] (w_X2_begin cI cZ cJ a_t a_ty a_ty_callCounts a_ty_latestValues a_ty_differing a_t_openFunctions a_t_openStatements a_t_registers a_tp a_t_inputs a_ty_outputValues t_inputCount t_inputsRead t_openCount ty_doneCount ty_outputCount ty_callCounts ty_latestValues ty_differing t_openFunctions t_openStatements t_registers) (w_X2_begin cI cZ cJ a_t a_ty a_ty_callCounts a_ty_latestValues a_ty_differing a_t_openFunctions a_t_openStatements a_t_registers a_tp a_t_inputs a_ty_outputValues t_inputCount out.1 out.2.1 out.2.2.1 out.2.2.2.1 out.2.2.2.2.1 out.2.2.2.2.2.1 out.2.2.2.2.2.2.1 out.2.2.2.2.2.2.2.1 out.2.2.2.2.2.2.2.2.1 out.2.2.2.2.2.2.2.2.2) := by
  unfold f_X2_begin at hf
  refine ge_v (by decide) (Nat.le_of_ble_eq_true rfl) (fun p e s m below meth c A H locs ls hC hW hl => ?_)
  have hC : g_C p s m meth c _ cX2_begin 2 (none : Option Jvm.ClassFile.FieldType) RX2 := hC
  have hx := hC.1
  have hb := hC.2.1
  have hown := hC.2.2.2.2.1
  have hts := hC.2.2.2.2.2.1
  have hl : lv_has ls 2 [(0, .ref a_t)] := hl
  refine lv_aload_n hx hb dX2_begin_0 rfl (lv_at hl 0 rfl) ?_
  refine gs_get hC hW in_X2 0 1 rfl rfl (by decide) fl_X2_15 rfl dX2_begin_1 ?_
  obtain ⟨o4, h4, hf⟩ := g_bnd hf
  refine gs_callVv (ws' := w_X2_begin cI cZ cJ a_t a_ty a_ty_callCounts a_ty_latestValues a_ty_differing a_t_openFunctions a_t_openStatements a_t_registers a_tp a_t_inputs a_ty_outputValues t_inputCount t_inputsRead t_openCount o4.1 o4.2.1 o4.2.2.1 o4.2.2.2.1 o4.2.2.2.2 t_openFunctions t_openStatements t_registers) hC hW (k_X6_begin l tA dC dI cI cZ cJ a_ty a_ty_callCounts a_ty_latestValues a_ty_differing a_ty_outputValues N ty_doneCount ty_outputCount ty_callCounts ty_latestValues ty_differing _ h4) yk_X6_begin lk_X2_63 iv_X6_begin ⟨rfl, rfl⟩ ⟨Nat.le_of_ble_eq_true rfl, Nat.le_of_ble_eq_true rfl⟩ hl.1 1 rfl rfl [1, 2, 3, 4] [0, 5, 6, 7] [0, 4, 5, 6, 7, 1, 2, 3] rfl rfl rfl rfl (by decide) rfl rfl rfl rfl (Nat.le_of_ble_eq_true rfl) dX2_begin_4 ⟨Nat.zero_le _, Nat.zero_le _⟩ (fun H locs hW => ?_)
  refine lv_aload_n hx hb dX2_begin_7 rfl (lv_at hl 0 rfl) ?_
  refine lv_iconst (v := 0) hx hb dX2_begin_8 (by decide) ?_
  refine gs_put (ws' := w_X2_begin cI cZ cJ a_t a_ty a_ty_callCounts a_ty_latestValues a_ty_differing a_t_openFunctions a_t_openStatements a_t_registers a_tp a_t_inputs a_ty_outputValues t_inputCount 0 t_openCount o4.1 o4.2.1 o4.2.2.1 o4.2.2.2.1 o4.2.2.2.2 t_openFunctions t_openStatements t_registers) hC hW in_X2 tyX2_ok nmX2 0 4 rfl rfl (by decide) fl_X2_27 rfl rfl rfl (Nat.le_of_ble_eq_true rfl) rfl dX2_begin_9 (fun H locs hW => ?_)
  refine lv_aload_n hx hb dX2_begin_12 rfl (lv_at hl 0 rfl) ?_
  refine gs_get hC hW in_X2 0 5 rfl rfl (by decide) fl_X2_30 rfl dX2_begin_13 ?_
  refine lv_iconst (v := 0) hx hb dX2_begin_16 (by decide) ?_
  refine lv_iconst (v := 0) hx hb dX2_begin_17 (by decide) ?_
  obtain ⟨s5, h5, hf⟩ := g_bnd hf
  refine gs_iast (ws' := w_X2_begin cI cZ cJ a_t a_ty a_ty_callCounts a_ty_latestValues a_ty_differing a_t_openFunctions a_t_openStatements a_t_registers a_tp a_t_inputs a_ty_outputValues t_inputCount 0 t_openCount o4.1 o4.2.1 o4.2.2.1 o4.2.2.2.1 o4.2.2.2.2 s5 t_openStatements t_registers) hC hW 5 h5 rfl rfl dX2_begin_18 (fun H locs hW => ?_)
  refine lv_aload_n hx hb dX2_begin_19 rfl (lv_at hl 0 rfl) ?_
  refine gs_get hC hW in_X2 0 6 rfl rfl (by decide) fl_X2_33 rfl dX2_begin_20 ?_
  refine lv_iconst (v := 0) hx hb dX2_begin_23 (by decide) ?_
  refine lv_iconst (v := 0) hx hb dX2_begin_24 (by decide) ?_
  obtain ⟨s6, h6, hf⟩ := g_bnd hf
  refine gs_iast (ws' := w_X2_begin cI cZ cJ a_t a_ty a_ty_callCounts a_ty_latestValues a_ty_differing a_t_openFunctions a_t_openStatements a_t_registers a_tp a_t_inputs a_ty_outputValues t_inputCount 0 t_openCount o4.1 o4.2.1 o4.2.2.1 o4.2.2.2.1 o4.2.2.2.2 s5 s6 t_registers) hC hW 6 h6 rfl rfl dX2_begin_25 (fun H locs hW => ?_)
  refine lv_iconst (v := 0) hx hb dX2_begin_26 (by decide) ?_
  refine lv_istore_n (lv' := [(1, .int 0), (0, .ref a_t)]) hx hb dX2_begin_27 rfl hl (by decide) rfl (fun ls hl => ?_)
  exact b_X2_begin_28 hC N _ _ _ _ _ _ _ _ _ _ _ _ hf _ _ _ hW (lv_sub hl [1, 0] rfl)

abbrev w_X2_valueOf (cI cZ cJ : ClassId) (a_t : Nat) (a_t_registers : Nat) (a_tp : Nat) (a_ty : Nat) (a_t_inputs : Nat) (a_t_openFunctions : Nat) (a_t_openStatements : Nat) (t_inputCount : Int32) (t_inputsRead : Int32) (t_openCount : Int32) (t_registers : Nat → Int32) : va_W := [(a_t, .inr (2, [.ref a_tp, .ref a_ty, .ref a_t_inputs, .int t_inputCount, .int t_inputsRead, .ref a_t_openFunctions, .ref a_t_openStatements, .ref a_t_registers, .int t_openCount])), (a_t_registers, .inl (cI, 66, .inl t_registers))]
abbrev r_X2_valueOf : Room := { frames := 0, cells := 0, slots := 0, locals := 0 }
def f_X2_valueOf (x1 : Int32) (x2 : Int32) (t_registers : Nat → Int32) : Option (Int32) := if 6 ≤ (x2 &&& 7) then some (x2 >>> (3 &&& 31)) else (g_rd 66 t_registers ((x1 * 6) + (x2 &&& 7))).bind (fun v2 => some v2)
set_option maxHeartbeats 4000000 in
set_option maxRecDepth 100000 in
theorem k_X2_valueOf (l : Launch) (tA : Nat) (dC : Nat → ClassId) (dI : Nat → Nat → Nat) (cI cZ cJ : ClassId) (a_t : Nat) (a_t_registers : Nat) (a_tp : Nat) (a_ty : Nat) (a_t_inputs : Nat) (a_t_openFunctions : Nat) (a_t_openStatements : Nat) (x1 : Int32) (x2 : Int32) (t_inputCount : Int32) (t_inputsRead : Int32) (t_openCount : Int32) (t_registers : Nat → Int32) (out : Int32) (hf : f_X2_valueOf x1 x2 t_registers = some out) : g_Mi l yX2_valueOf cX2_valueOf 4 (some .int) r_X2_valueOf tA dC dI cI cZ cJ [.ref a_t, .int x1, .int x2] (w_X2_valueOf cI cZ cJ a_t a_t_registers a_tp a_ty a_t_inputs a_t_openFunctions a_t_openStatements t_inputCount t_inputsRead t_openCount t_registers) (w_X2_valueOf cI cZ cJ a_t a_t_registers a_tp a_ty a_t_inputs a_t_openFunctions a_t_openStatements t_inputCount t_inputsRead t_openCount t_registers) out := by
  unfold f_X2_valueOf at hf
  refine ge_i (by decide) (Nat.le_of_ble_eq_true rfl) (fun p e s m below meth c A H locs ls hC hW hl => ?_)
  have hC : g_C p s m meth c _ cX2_valueOf 4 (some .int) RX2 := hC
  have hx := hC.1
  have hb := hC.2.1
  have hown := hC.2.2.2.2.1
  have hts := hC.2.2.2.2.2.1
  have hl : lv_has ls 4 [(0, .ref a_t), (1, .int x1), (2, .int x2)] := hl
  refine lv_iload_n hx hb dX2_valueOf_0 rfl (lv_at hl 2 rfl) ?_
  refine lv_bipush (v := 7) hx hb dX2_valueOf_1 (by decide) ?_
  refine lv_iand hx hb dX2_valueOf_3 ?_
  refine lv_istore_n (lv' := [(3, .int (x2 &&& 7)), (0, .ref a_t), (1, .int x1), (2, .int x2)]) hx hb dX2_valueOf_4 rfl hl (by decide) rfl (fun ls hl => ?_)
  refine lv_iload_n hx hb dX2_valueOf_5 rfl (lv_at hl 0 rfl) ?_
  refine lv_bipush (v := 6) hx hb dX2_valueOf_6 (by decide) ?_
  refine lv_icmp_ge (tgt := 25) hx hb dX2_valueOf_8 (by decide) (fun c1 => ?_) (fun c1 => ?_)
  · replace hf := (if_pos c1).symm.trans hf
    refine lv_iload_n hx hb dX2_valueOf_25 rfl (lv_at hl 3 rfl) ?_
    refine lv_iconst (v := 3) hx hb dX2_valueOf_26 (by decide) ?_
    refine lv_ishr hx hb dX2_valueOf_27 ?_
    obtain rfl := Option.some.inj hf
    exact gs_ri hC hW rfl dX2_valueOf_28
  · replace hf := (if_neg c1).symm.trans hf
    refine lv_aload_n hx hb dX2_valueOf_11 rfl (lv_at hl 1 rfl) ?_
    refine gs_get hC hW in_X2 0 7 rfl rfl (by decide) fl_X2_36 rfl dX2_valueOf_12 ?_
    refine lv_iload_n hx hb dX2_valueOf_15 rfl (lv_at hl 2 rfl) ?_
    refine lv_bipush (v := 6) hx hb dX2_valueOf_16 (by decide) ?_
    refine lv_imul hx hb dX2_valueOf_18 ?_
    refine lv_iload_n hx hb dX2_valueOf_19 rfl (lv_at hl 0 rfl) ?_
    refine lv_iadd hx hb dX2_valueOf_20 ?_
    obtain ⟨v2, h2, hf⟩ := g_bnd hf
    refine gs_iald hC hW 1 h2 rfl dX2_valueOf_21 ?_
    refine lv_goto (tgt := 28) hx hb dX2_valueOf_22 (by decide) ?_
    obtain rfl := Option.some.inj hf
    exact gs_ri hC hW rfl dX2_valueOf_28

abbrev w_X2_finish (cI cZ cJ : ClassId) (a_t : Nat) (a_tp : Nat) (a_tp_fields : Nat) (a_t_openStatements : Nat) (a_t_registers : Nat) (a_ty : Nat) (a_t_inputs : Nat) (a_t_openFunctions : Nat) (a_tp_parameterCounts : Nat) (a_tp_lengths : Nat) (a_tp_entries : Nat) (t_inputCount : Int32) (t_inputsRead : Int32) (t_openCount : Int32) (tp_functionCount : Int32) (tp_entryCount : Int32) (tp_fields : Nat → Int32) (t_openStatements : Nat → Int32) (t_registers : Nat → Int32) : va_W := [(a_t, .inr (2, [.ref a_tp, .ref a_ty, .ref a_t_inputs, .int t_inputCount, .int t_inputsRead, .ref a_t_openFunctions, .ref a_t_openStatements, .ref a_t_registers, .int t_openCount])), (a_tp, .inr (4, [.int tp_functionCount, .int tp_entryCount, .ref a_tp_parameterCounts, .ref a_tp_lengths, .ref a_tp_fields, .ref a_tp_entries])), (a_tp_fields, .inl (cI, 1152, .inl tp_fields)), (a_t_openStatements, .inl (cI, 11, .inl t_openStatements)), (a_t_registers, .inl (cI, 66, .inl t_registers))]
abbrev r_X2_finish : Room := { frames := 2, cells := 0, slots := 0, locals := 44 }
def f_X2_finish (x1 : Int32) (x2 : Int32) (x3 : Int32) (x4 : Int32) (tp_fields : Nat → Int32) (t_openStatements : Nat → Int32) (t_registers : Nat → Int32) : Option (Int32 × (Nat → Int32) × (Nat → Int32)) := (f_X4_fieldOf x1 x2 1 tp_fields).bind (fun o1 => (g_wr 66 t_registers ((x3 * 6) + o1) x4).bind (fun s2 => (g_wr 11 t_openStatements x3 (x2 + 1)).bind (fun s3 => some (1, s3, s2))))
set_option maxHeartbeats 4000000 in
set_option maxRecDepth 100000 in
theorem k_X2_finish (l : Launch) (tA : Nat) (dC : Nat → ClassId) (dI : Nat → Nat → Nat) (cI cZ cJ : ClassId) (a_t : Nat) (a_tp : Nat) (a_tp_fields : Nat) (a_t_openStatements : Nat) (a_t_registers : Nat) (a_ty : Nat) (a_t_inputs : Nat) (a_t_openFunctions : Nat) (a_tp_parameterCounts : Nat) (a_tp_lengths : Nat) (a_tp_entries : Nat) (x1 : Int32) (x2 : Int32) (x3 : Int32) (x4 : Int32) (t_inputCount : Int32) (t_inputsRead : Int32) (t_openCount : Int32) (tp_functionCount : Int32) (tp_entryCount : Int32) (tp_fields : Nat → Int32) (t_openStatements : Nat → Int32) (t_registers : Nat → Int32) (out : Int32 × (Nat → Int32) × (Nat → Int32)) (hf : f_X2_finish x1 x2 x3 x4 tp_fields t_openStatements t_registers = some out) : g_Mi l yX2_finish cX2_finish 5 (some .boolean) r_X2_finish tA dC dI cI cZ cJ [.ref a_t, .int x1, .int x2, .int x3, .int x4] (w_X2_finish cI cZ cJ a_t a_tp a_tp_fields a_t_openStatements a_t_registers a_ty a_t_inputs a_t_openFunctions a_tp_parameterCounts a_tp_lengths a_tp_entries t_inputCount t_inputsRead t_openCount tp_functionCount tp_entryCount tp_fields t_openStatements t_registers) (w_X2_finish cI cZ cJ a_t a_tp a_tp_fields a_t_openStatements a_t_registers a_ty a_t_inputs a_t_openFunctions a_tp_parameterCounts a_tp_lengths a_tp_entries t_inputCount t_inputsRead t_openCount tp_functionCount tp_entryCount tp_fields out.2.1 out.2.2) out.1 := by
  unfold f_X2_finish at hf
  refine ge_i (by decide) (Nat.le_of_ble_eq_true rfl) (fun p e s m below meth c A H locs ls hC hW hl => ?_)
  have hC : g_C p s m meth c _ cX2_finish 5 (some .boolean) RX2 := hC
  have hx := hC.1
  have hb := hC.2.1
  have hown := hC.2.2.2.2.1
  have hts := hC.2.2.2.2.2.1
  have hl : lv_has ls 5 [(0, .ref a_t), (1, .int x1), (2, .int x2), (3, .int x3), (4, .int x4)] := hl
  refine lv_aload_n hx hb dX2_finish_0 rfl (lv_at hl 0 rfl) ?_
  refine gs_get hC hW in_X2 0 7 rfl rfl (by decide) fl_X2_36 rfl dX2_finish_1 ?_
  refine lv_iload_n hx hb dX2_finish_4 rfl (lv_at hl 3 rfl) ?_
  refine lv_bipush (v := 6) hx hb dX2_finish_5 (by decide) ?_
  refine lv_imul hx hb dX2_finish_7 ?_
  refine lv_aload_n hx hb dX2_finish_8 rfl (lv_at hl 0 rfl) ?_
  refine gs_get hC hW in_X2 0 0 rfl rfl (by decide) fl_X2_9 rfl dX2_finish_9 ?_
  refine lv_iload_n hx hb dX2_finish_12 rfl (lv_at hl 1 rfl) ?_
  refine lv_iload_n hx hb dX2_finish_13 rfl (lv_at hl 2 rfl) ?_
  refine lv_iconst (v := 1) hx hb dX2_finish_14 (by decide) ?_
  obtain ⟨o1, h1, hf⟩ := g_bnd hf
  refine gs_callVi (ws' := w_X2_finish cI cZ cJ a_t a_tp a_tp_fields a_t_openStatements a_t_registers a_ty a_t_inputs a_t_openFunctions a_tp_parameterCounts a_tp_lengths a_tp_entries t_inputCount t_inputsRead t_openCount tp_functionCount tp_entryCount tp_fields t_openStatements t_registers) hC hW (k_X4_fieldOf l tA dC dI cI cZ cJ a_tp a_tp_fields a_tp_parameterCounts a_tp_lengths a_tp_entries x1 x2 1 tp_functionCount tp_entryCount tp_fields _ h1) yk_X4_fieldOf lk_X2_68 iv_X4_fieldOf ⟨rfl, rfl⟩ ⟨Nat.le_of_ble_eq_true rfl, Nat.le_of_ble_eq_true rfl⟩ hl.1 1 rfl rfl [1, 2] [0, 3, 4] [0, 3, 4, 1, 2] rfl rfl rfl rfl (by decide) rfl rfl rfl rfl (Nat.le_of_ble_eq_true rfl) dX2_finish_15 ⟨Nat.zero_le _, Nat.zero_le _⟩ (fun H locs hW => ?_)
  refine lv_iadd hx hb dX2_finish_18 ?_
  refine lv_iload hx hb dX2_finish_19 (lv_at hl 4 rfl) ?_
  obtain ⟨s2, h2, hf⟩ := g_bnd hf
  refine gs_iast (ws' := w_X2_finish cI cZ cJ a_t a_tp a_tp_fields a_t_openStatements a_t_registers a_ty a_t_inputs a_t_openFunctions a_tp_parameterCounts a_tp_lengths a_tp_entries t_inputCount t_inputsRead t_openCount tp_functionCount tp_entryCount tp_fields t_openStatements s2) hC hW 4 h2 rfl rfl dX2_finish_21 (fun H locs hW => ?_)
  refine lv_aload_n hx hb dX2_finish_22 rfl (lv_at hl 0 rfl) ?_
  refine gs_get hC hW in_X2 0 6 rfl rfl (by decide) fl_X2_33 rfl dX2_finish_23 ?_
  refine lv_iload_n hx hb dX2_finish_26 rfl (lv_at hl 3 rfl) ?_
  refine lv_iload_n hx hb dX2_finish_27 rfl (lv_at hl 2 rfl) ?_
  refine lv_iconst (v := 1) hx hb dX2_finish_28 (by decide) ?_
  refine lv_iadd hx hb dX2_finish_29 ?_
  obtain ⟨s3, h3, hf⟩ := g_bnd hf
  refine gs_iast (ws' := w_X2_finish cI cZ cJ a_t a_tp a_tp_fields a_t_openStatements a_t_registers a_ty a_t_inputs a_t_openFunctions a_tp_parameterCounts a_tp_lengths a_tp_entries t_inputCount t_inputsRead t_openCount tp_functionCount tp_entryCount tp_fields s3 s2) hC hW 3 h3 rfl rfl dX2_finish_30 (fun H locs hW => ?_)
  refine lv_iconst (v := 1) hx hb dX2_finish_31 (by decide) ?_
  obtain rfl := Option.some.inj hf
  exact gs_rz hC hW rfl g_n1 dX2_finish_32

abbrev w_X2_enterCall (cI cZ cJ : ClassId) (a_t : Nat) (a_tp : Nat) (a_tp_parameterCounts : Nat) (a_tp_fields : Nat) (a_ty : Nat) (a_ty_callCounts : Nat) (a_ty_latestValues : Nat) (a_ty_differing : Nat) (a_t_openFunctions : Nat) (a_t_openStatements : Nat) (a_t_registers : Nat) (a_t_inputs : Nat) (a_tp_lengths : Nat) (a_tp_entries : Nat) (a_ty_outputValues : Nat) (t_inputCount : Int32) (t_inputsRead : Int32) (t_openCount : Int32) (tp_functionCount : Int32) (tp_entryCount : Int32) (tp_parameterCounts : Nat → Int32) (tp_fields : Nat → Int32) (ty_doneCount : Int32) (ty_outputCount : Int32) (ty_callCounts : Nat → Int32) (ty_latestValues : Nat → Int32) (ty_differing : Nat → Int32) (t_openFunctions : Nat → Int32) (t_openStatements : Nat → Int32) (t_registers : Nat → Int32) : va_W := [(a_t, .inr (2, [.ref a_tp, .ref a_ty, .ref a_t_inputs, .int t_inputCount, .int t_inputsRead, .ref a_t_openFunctions, .ref a_t_openStatements, .ref a_t_registers, .int t_openCount])), (a_tp, .inr (4, [.int tp_functionCount, .int tp_entryCount, .ref a_tp_parameterCounts, .ref a_tp_lengths, .ref a_tp_fields, .ref a_tp_entries])), (a_tp_parameterCounts, .inl (cI, 12, .inl tp_parameterCounts)), (a_tp_fields, .inl (cI, 1152, .inl tp_fields)), (a_ty, .inr (6, [.int ty_doneCount, .int ty_outputCount, .ref a_ty_outputValues, .ref a_ty_callCounts, .ref a_ty_latestValues, .ref a_ty_differing])), (a_ty_callCounts, .inl (cI, 12, .inl ty_callCounts)), (a_ty_latestValues, .inl (cI, 36, .inl ty_latestValues)), (a_ty_differing, .inl (cZ, 36, .inl ty_differing)), (a_t_openFunctions, .inl (cI, 11, .inl t_openFunctions)), (a_t_openStatements, .inl (cI, 11, .inl t_openStatements)), (a_t_registers, .inl (cI, 66, .inl t_registers))]
abbrev r_X2_enterCall : Room := { frames := 2, cells := 0, slots := 0, locals := 44 }
def f_X2_enterCall_23 (N : Nat) (x1 : Int32) (x2 : Int32) (x3 : Int32) (x4 : Int32) (tp_parameterCounts : Nat → Int32) (tp_fields : Nat → Int32) : Nat → Int32 → Int32 → Int32 → (Nat → Int32) → (Nat → Int32) → (Nat → Int32) → (Nat → Int32) → (Nat → Int32) → (Nat → Int32) → Option (Int32 × Int32 × (Nat → Int32) × (Nat → Int32) × (Nat → Int32) × (Nat → Int32) × (Nat → Int32) × (Nat → Int32))
  | 0, _, _, _, _, _, _, _, _, _ => none
  | n + 1, x5, x6, t_openCount, ty_callCounts, ty_latestValues, ty_differing, t_openFunctions, t_openStatements, t_registers => if 6 ≤ x6 then (g_wr 11 t_openFunctions t_openCount x4).bind (fun s2 => (g_wr 11 t_openStatements t_openCount 0).bind (fun s3 => (f_X6_addCall N x4 x5 ty_callCounts ty_latestValues ty_differing t_registers).bind (fun o4 => some (1, t_openCount + 1, o4.1, o4.2.1, o4.2.2, s2, s3, t_registers)))) else (g_rd 12 tp_parameterCounts x4).bind (fun v5 => if v5 ≤ x6 then (g_wr 66 t_registers (x5 + x6) 0).bind (fun s7 => f_X2_enterCall_23 N x1 x2 x3 x4 tp_parameterCounts tp_fields n x5 (x6 + 1) t_openCount ty_callCounts ty_latestValues ty_differing t_openFunctions t_openStatements s7) else (f_X4_fieldOf x1 x2 (3 + x6) tp_fields).bind (fun o8 => (f_X2_valueOf x3 o8 t_registers).bind (fun o9 => (g_wr 66 t_registers (x5 + x6) o9).bind (fun s10 => f_X2_enterCall_23 N x1 x2 x3 x4 tp_parameterCounts tp_fields n x5 (x6 + 1) t_openCount ty_callCounts ty_latestValues ty_differing t_openFunctions t_openStatements s10))))
set_option maxHeartbeats 4000000 in
set_option maxRecDepth 100000 in
theorem b_X2_enterCall_23 {p : Program} {l : Launch} {e : Env} {s : State} {m : MethodId} {args : Array Value} {below : List Frame} {meth : Method} {c : Code} {tA : Nat} {dC : Nat → ClassId} {dI : Nat → Nat → Nat} {cI cZ cJ : ClassId} {A : Nat → Prop} {a_t : Nat} {a_tp : Nat} {a_tp_parameterCounts : Nat} {a_tp_fields : Nat} {a_ty : Nat} {a_ty_callCounts : Nat} {a_ty_latestValues : Nat} {a_ty_differing : Nat} {a_t_openFunctions : Nat} {a_t_openStatements : Nat} {a_t_registers : Nat} {a_t_inputs : Nat} {a_tp_lengths : Nat} {a_tp_entries : Nat} {a_ty_outputValues : Nat} {x1 : Int32} {x2 : Int32} {x3 : Int32} {x4 : Int32} {tp_parameterCounts : Nat → Int32} {tp_fields : Nat → Int32} {t_inputCount : Int32} {t_inputsRead : Int32} {tp_functionCount : Int32} {tp_entryCount : Int32} {ty_doneCount : Int32} {ty_outputCount : Int32} {N : Nat} (hC : g_C p s m meth c args cX2_enterCall 7 (some .boolean) RX2) :
    ∀ (n : Nat) (x5 : Int32) (x6 : Int32) (t_openCount : Int32) (ty_callCounts : Nat → Int32) (ty_latestValues : Nat → Int32) (ty_differing : Nat → Int32) (t_openFunctions : Nat → Int32) (t_openStatements : Nat → Int32) (t_registers : Nat → Int32) (out : Int32 × Int32 × (Nat → Int32) × (Nat → Int32) × (Nat → Int32) × (Nat → Int32) × (Nat → Int32) × (Nat → Int32)), f_X2_enterCall_23 N x1 x2 x3 x4 tp_parameterCounts tp_fields n x5 x6 t_openCount ty_callCounts ty_latestValues ty_differing t_openFunctions t_openStatements t_registers = some out → ∀ (H : Heap) (locs : List Loc) (ls : Array Slot), g_W tA dC dI cI cZ cJ A s H locs (w_X2_enterCall cI cZ cJ a_t a_tp a_tp_parameterCounts a_tp_fields a_ty a_ty_callCounts a_ty_latestValues a_ty_differing a_t_openFunctions a_t_openStatements a_t_registers a_t_inputs a_tp_lengths a_tp_entries a_ty_outputValues t_inputCount t_inputsRead t_openCount tp_functionCount tp_entryCount tp_parameterCounts tp_fields ty_doneCount ty_outputCount ty_callCounts ty_latestValues ty_differing t_openFunctions t_openStatements t_registers) → lv_has ls 7 [(0, .ref a_t), (1, .int x1), (2, .int x2), (3, .int x3), (4, .int x4), (5, .int x5), (6, .int x6)] → W p l e r_X2_enterCall s m args below meth c H locs 0 0 (MQ below (g_Qi dC dI cI cZ cJ A (w_X2_enterCall cI cZ cJ a_t a_tp a_tp_parameterCounts a_tp_fields a_ty a_ty_callCounts a_ty_latestValues a_ty_differing a_t_openFunctions a_t_openStatements a_t_registers a_t_inputs a_tp_lengths a_tp_entries a_ty_outputValues t_inputCount t_inputsRead out.2.1 tp_functionCount tp_entryCount tp_parameterCounts tp_fields ty_doneCount ty_outputCount out.2.2.1 out.2.2.2.1 out.2.2.2.2.1 out.2.2.2.2.2.1 out.2.2.2.2.2.2.1 out.2.2.2.2.2.2.2) out.1) args s 0 0 A) (F0 m 23 ls []) := by
  have hx := hC.1
  have hb := hC.2.1
  have hown := hC.2.2.2.2.1
  have hts := hC.2.2.2.2.2.1
  intro n
  induction n with
  | zero =>
    intro x5 x6 t_openCount ty_callCounts ty_latestValues ty_differing t_openFunctions t_openStatements t_registers out hf
    exact g_no hf
  | succ n ih =>
    intro x5 x6 t_openCount ty_callCounts ty_latestValues ty_differing t_openFunctions t_openStatements t_registers out hf H locs ls hW hl
    refine lv_iload hx hb dX2_enterCall_23 (lv_at hl 6 rfl) ?_
    refine lv_bipush (v := 6) hx hb dX2_enterCall_25 (by decide) ?_
    refine lv_icmp_ge (tgt := 83) hx hb dX2_enterCall_27 (by decide) (fun c1 => ?_) (fun c1 => ?_)
    · replace hf := (if_pos c1).symm.trans hf
      refine lv_aload_n hx hb dX2_enterCall_83 rfl (lv_at hl 0 rfl) ?_
      refine gs_get hC hW in_X2 0 5 rfl rfl (by decide) fl_X2_30 rfl dX2_enterCall_84 ?_
      refine lv_aload_n hx hb dX2_enterCall_87 rfl (lv_at hl 0 rfl) ?_
      refine gs_get hC hW in_X2 0 8 rfl rfl (by decide) fl_X2_39 rfl dX2_enterCall_88 ?_
      refine lv_iload hx hb dX2_enterCall_91 (lv_at hl 4 rfl) ?_
      obtain ⟨s2, h2, hf⟩ := g_bnd hf
      refine gs_iast (ws' := w_X2_enterCall cI cZ cJ a_t a_tp a_tp_parameterCounts a_tp_fields a_ty a_ty_callCounts a_ty_latestValues a_ty_differing a_t_openFunctions a_t_openStatements a_t_registers a_t_inputs a_tp_lengths a_tp_entries a_ty_outputValues t_inputCount t_inputsRead t_openCount tp_functionCount tp_entryCount tp_parameterCounts tp_fields ty_doneCount ty_outputCount ty_callCounts ty_latestValues ty_differing s2 t_openStatements t_registers) hC hW 8 h2 rfl rfl dX2_enterCall_93 (fun H locs hW => ?_)
      refine lv_aload_n hx hb dX2_enterCall_94 rfl (lv_at hl 0 rfl) ?_
      refine gs_get hC hW in_X2 0 6 rfl rfl (by decide) fl_X2_33 rfl dX2_enterCall_95 ?_
      refine lv_aload_n hx hb dX2_enterCall_98 rfl (lv_at hl 0 rfl) ?_
      refine gs_get hC hW in_X2 0 8 rfl rfl (by decide) fl_X2_39 rfl dX2_enterCall_99 ?_
      refine lv_iconst (v := 0) hx hb dX2_enterCall_102 (by decide) ?_
      obtain ⟨s3, h3, hf⟩ := g_bnd hf
      refine gs_iast (ws' := w_X2_enterCall cI cZ cJ a_t a_tp a_tp_parameterCounts a_tp_fields a_ty a_ty_callCounts a_ty_latestValues a_ty_differing a_t_openFunctions a_t_openStatements a_t_registers a_t_inputs a_tp_lengths a_tp_entries a_ty_outputValues t_inputCount t_inputsRead t_openCount tp_functionCount tp_entryCount tp_parameterCounts tp_fields ty_doneCount ty_outputCount ty_callCounts ty_latestValues ty_differing s2 s3 t_registers) hC hW 9 h3 rfl rfl dX2_enterCall_103 (fun H locs hW => ?_)
      refine lv_aload_n hx hb dX2_enterCall_104 rfl (lv_at hl 0 rfl) ?_
      refine lv_dup hx hb dX2_enterCall_105 rfl ?_
      refine gs_get hC hW in_X2 0 8 rfl rfl (by decide) fl_X2_39 rfl dX2_enterCall_106 ?_
      refine lv_iconst (v := 1) hx hb dX2_enterCall_109 (by decide) ?_
      refine lv_iadd hx hb dX2_enterCall_110 ?_
      refine gs_put (ws' := w_X2_enterCall cI cZ cJ a_t a_tp a_tp_parameterCounts a_tp_fields a_ty a_ty_callCounts a_ty_latestValues a_ty_differing a_t_openFunctions a_t_openStatements a_t_registers a_t_inputs a_tp_lengths a_tp_entries a_ty_outputValues t_inputCount t_inputsRead (t_openCount + 1) tp_functionCount tp_entryCount tp_parameterCounts tp_fields ty_doneCount ty_outputCount ty_callCounts ty_latestValues ty_differing s2 s3 t_registers) hC hW in_X2 tyX2_ok nmX2 0 8 rfl rfl (by decide) fl_X2_39 rfl rfl rfl (Nat.le_of_ble_eq_true rfl) rfl dX2_enterCall_111 (fun H locs hW => ?_)
      refine lv_aload_n hx hb dX2_enterCall_114 rfl (lv_at hl 0 rfl) ?_
      refine gs_get hC hW in_X2 0 1 rfl rfl (by decide) fl_X2_15 rfl dX2_enterCall_115 ?_
      refine lv_iload hx hb dX2_enterCall_118 (lv_at hl 4 rfl) ?_
      refine lv_aload_n hx hb dX2_enterCall_120 rfl (lv_at hl 0 rfl) ?_
      refine gs_get hC hW in_X2 0 7 rfl rfl (by decide) fl_X2_36 rfl dX2_enterCall_121 ?_
      refine lv_iload hx hb dX2_enterCall_124 (lv_at hl 5 rfl) ?_
      obtain ⟨o4, h4, hf⟩ := g_bnd hf
      refine gs_callVv (ws' := w_X2_enterCall cI cZ cJ a_t a_tp a_tp_parameterCounts a_tp_fields a_ty a_ty_callCounts a_ty_latestValues a_ty_differing a_t_openFunctions a_t_openStatements a_t_registers a_t_inputs a_tp_lengths a_tp_entries a_ty_outputValues t_inputCount t_inputsRead (t_openCount + 1) tp_functionCount tp_entryCount tp_parameterCounts tp_fields ty_doneCount ty_outputCount o4.1 o4.2.1 o4.2.2 s2 s3 t_registers) hC hW (k_X6_addCall l tA dC dI cI cZ cJ a_ty a_ty_callCounts a_ty_latestValues a_ty_differing a_t_registers a_ty_outputValues N x4 x5 ty_doneCount ty_outputCount ty_callCounts ty_latestValues ty_differing t_registers _ h4) yk_X6_addCall lk_X2_64 iv_X6_addCall ⟨rfl, rfl⟩ ⟨Nat.le_of_ble_eq_true rfl, Nat.le_of_ble_eq_true rfl⟩ hl.1 4 rfl rfl [4, 5, 6, 7, 10] [0, 1, 2, 3, 8, 9] [0, 1, 2, 3, 6, 7, 8, 9, 4, 5, 10] rfl rfl rfl rfl (by decide) rfl rfl rfl rfl (Nat.le_of_ble_eq_true rfl) dX2_enterCall_126 ⟨Nat.zero_le _, Nat.zero_le _⟩ (fun H locs hW => ?_)
      refine lv_iconst (v := 1) hx hb dX2_enterCall_129 (by decide) ?_
      obtain rfl := Option.some.inj hf
      exact gs_rz hC hW rfl g_n1 dX2_enterCall_130
    · replace hf := (if_neg c1).symm.trans hf
      refine lv_aload_n hx hb dX2_enterCall_30 rfl (lv_at hl 0 rfl) ?_
      refine gs_get hC hW in_X2 0 7 rfl rfl (by decide) fl_X2_36 rfl dX2_enterCall_31 ?_
      refine lv_iload hx hb dX2_enterCall_34 (lv_at hl 5 rfl) ?_
      refine lv_iload hx hb dX2_enterCall_36 (lv_at hl 6 rfl) ?_
      refine lv_iadd hx hb dX2_enterCall_38 ?_
      refine lv_iload hx hb dX2_enterCall_39 (lv_at hl 6 rfl) ?_
      refine lv_aload_n hx hb dX2_enterCall_41 rfl (lv_at hl 0 rfl) ?_
      refine gs_get hC hW in_X2 0 0 rfl rfl (by decide) fl_X2_9 rfl dX2_enterCall_42 ?_
      refine gs_get hC hW in_X4 1 2 rfl rfl (by decide) fl_X2_101 rfl dX2_enterCall_45 ?_
      refine lv_iload hx hb dX2_enterCall_48 (lv_at hl 4 rfl) ?_
      obtain ⟨v5, h5, hf⟩ := g_bnd hf
      refine gs_iald hC hW 2 h5 rfl dX2_enterCall_50 ?_
      refine lv_icmp_ge (tgt := 75) hx hb dX2_enterCall_51 (by decide) (fun c6 => ?_) (fun c6 => ?_)
      · replace hf := (if_pos c6).symm.trans hf
        refine lv_iconst (v := 0) hx hb dX2_enterCall_75 (by decide) ?_
        obtain ⟨s7, h7, hf⟩ := g_bnd hf
        refine gs_iast (ws' := w_X2_enterCall cI cZ cJ a_t a_tp a_tp_parameterCounts a_tp_fields a_ty a_ty_callCounts a_ty_latestValues a_ty_differing a_t_openFunctions a_t_openStatements a_t_registers a_t_inputs a_tp_lengths a_tp_entries a_ty_outputValues t_inputCount t_inputsRead t_openCount tp_functionCount tp_entryCount tp_parameterCounts tp_fields ty_doneCount ty_outputCount ty_callCounts ty_latestValues ty_differing t_openFunctions t_openStatements s7) hC hW 10 h7 rfl rfl dX2_enterCall_76 (fun H locs hW => ?_)
        refine lv_iinc (v := x6 + 1) (lv' := [(6, .int (x6 + 1)), (0, .ref a_t), (1, .int x1), (2, .int x2), (3, .int x3), (4, .int x4), (5, .int x5)]) hx hb dX2_enterCall_77 hl (k := 6) rfl rfl (by decide) rfl (fun ls hl => ?_)
        refine lv_goto (tgt := 23) hx hb dX2_enterCall_80 (by decide) ?_
        exact ih _ _ _ _ _ _ _ _ _ _ hf _ _ _ hW (lv_sub hl [1, 2, 3, 4, 5, 6, 0] rfl)
      · replace hf := (if_neg c6).symm.trans hf
        refine lv_aload_n hx hb dX2_enterCall_54 rfl (lv_at hl 0 rfl) ?_
        refine lv_iload_n hx hb dX2_enterCall_55 rfl (lv_at hl 3 rfl) ?_
        refine lv_aload_n hx hb dX2_enterCall_56 rfl (lv_at hl 0 rfl) ?_
        refine gs_get hC hW in_X2 0 0 rfl rfl (by decide) fl_X2_9 rfl dX2_enterCall_57 ?_
        refine lv_iload_n hx hb dX2_enterCall_60 rfl (lv_at hl 1 rfl) ?_
        refine lv_iload_n hx hb dX2_enterCall_61 rfl (lv_at hl 2 rfl) ?_
        refine lv_iconst (v := 3) hx hb dX2_enterCall_62 (by decide) ?_
        refine lv_iload hx hb dX2_enterCall_63 (lv_at hl 6 rfl) ?_
        refine lv_iadd hx hb dX2_enterCall_65 ?_
        obtain ⟨o8, h8, hf⟩ := g_bnd hf
        refine gs_callVi (ws' := w_X2_enterCall cI cZ cJ a_t a_tp a_tp_parameterCounts a_tp_fields a_ty a_ty_callCounts a_ty_latestValues a_ty_differing a_t_openFunctions a_t_openStatements a_t_registers a_t_inputs a_tp_lengths a_tp_entries a_ty_outputValues t_inputCount t_inputsRead t_openCount tp_functionCount tp_entryCount tp_parameterCounts tp_fields ty_doneCount ty_outputCount ty_callCounts ty_latestValues ty_differing t_openFunctions t_openStatements t_registers) hC hW (k_X4_fieldOf l tA dC dI cI cZ cJ a_tp a_tp_fields a_tp_parameterCounts a_tp_lengths a_tp_entries x1 x2 (3 + x6) tp_functionCount tp_entryCount tp_fields _ h8) yk_X4_fieldOf lk_X2_68 iv_X4_fieldOf ⟨rfl, rfl⟩ ⟨Nat.le_of_ble_eq_true rfl, Nat.le_of_ble_eq_true rfl⟩ hl.1 1 rfl rfl [1, 3] [0, 2, 4, 5, 6, 7, 8, 9, 10] [0, 9, 1, 10, 2, 3, 4, 5, 6, 7, 8] rfl rfl rfl rfl (by decide) rfl rfl rfl rfl (Nat.le_of_ble_eq_true rfl) dX2_enterCall_66 ⟨Nat.zero_le _, Nat.zero_le _⟩ (fun H locs hW => ?_)
        obtain ⟨o9, h9, hf⟩ := g_bnd hf
        refine gs_callVi (ws' := w_X2_enterCall cI cZ cJ a_t a_tp a_tp_parameterCounts a_tp_fields a_ty a_ty_callCounts a_ty_latestValues a_ty_differing a_t_openFunctions a_t_openStatements a_t_registers a_t_inputs a_tp_lengths a_tp_entries a_ty_outputValues t_inputCount t_inputsRead t_openCount tp_functionCount tp_entryCount tp_parameterCounts tp_fields ty_doneCount ty_outputCount ty_callCounts ty_latestValues ty_differing t_openFunctions t_openStatements t_registers) hC hW (k_X2_valueOf l tA dC dI cI cZ cJ a_t a_t_registers a_tp a_ty a_t_inputs a_t_openFunctions a_t_openStatements x3 o8 t_inputCount t_inputsRead t_openCount t_registers _ h9) yk_X2_valueOf lk_X2_72 iv_X2_valueOf ⟨rfl, rfl⟩ ⟨Nat.le_of_ble_eq_true rfl, Nat.le_of_ble_eq_true rfl⟩ hl.1 0 rfl rfl [0, 10] [1, 2, 3, 4, 5, 6, 7, 8, 9] [9, 0, 1, 2, 3, 4, 5, 6, 7, 8, 10] rfl rfl rfl rfl (by decide) rfl rfl rfl rfl (Nat.le_of_ble_eq_true rfl) dX2_enterCall_69 ⟨Nat.zero_le _, Nat.zero_le _⟩ (fun H locs hW => ?_)
        refine lv_goto (tgt := 76) hx hb dX2_enterCall_72 (by decide) ?_
        obtain ⟨s10, h10, hf⟩ := g_bnd hf
        refine gs_iast (ws' := w_X2_enterCall cI cZ cJ a_t a_tp a_tp_parameterCounts a_tp_fields a_ty a_ty_callCounts a_ty_latestValues a_ty_differing a_t_openFunctions a_t_openStatements a_t_registers a_t_inputs a_tp_lengths a_tp_entries a_ty_outputValues t_inputCount t_inputsRead t_openCount tp_functionCount tp_entryCount tp_parameterCounts tp_fields ty_doneCount ty_outputCount ty_callCounts ty_latestValues ty_differing t_openFunctions t_openStatements s10) hC hW 10 h10 rfl rfl dX2_enterCall_76 (fun H locs hW => ?_)
        refine lv_iinc (v := x6 + 1) (lv' := [(6, .int (x6 + 1)), (0, .ref a_t), (1, .int x1), (2, .int x2), (3, .int x3), (4, .int x4), (5, .int x5)]) hx hb dX2_enterCall_77 hl (k := 6) rfl rfl (by decide) rfl (fun ls hl => ?_)
        refine lv_goto (tgt := 23) hx hb dX2_enterCall_80 (by decide) ?_
        exact ih _ _ _ _ _ _ _ _ _ _ hf _ _ _ hW (lv_sub hl [1, 2, 3, 4, 5, 6, 0] rfl)
def f_X2_enterCall (N : Nat) (x1 : Int32) (x2 : Int32) (x3 : Int32) (x4 : Int32) (t_openCount : Int32) (tp_parameterCounts : Nat → Int32) (tp_fields : Nat → Int32) (ty_callCounts : Nat → Int32) (ty_latestValues : Nat → Int32) (ty_differing : Nat → Int32) (t_openFunctions : Nat → Int32) (t_openStatements : Nat → Int32) (t_registers : Nat → Int32) : Option (Int32 × Int32 × (Nat → Int32) × (Nat → Int32) × (Nat → Int32) × (Nat → Int32) × (Nat → Int32) × (Nat → Int32)) := if t_openCount < 11 then f_X2_enterCall_23 N x1 x2 x3 x4 tp_parameterCounts tp_fields N (t_openCount * 6) 0 t_openCount ty_callCounts ty_latestValues ty_differing t_openFunctions t_openStatements t_registers else some (0, t_openCount, ty_callCounts, ty_latestValues, ty_differing, t_openFunctions, t_openStatements, t_registers)
set_option maxHeartbeats 4000000 in
set_option maxRecDepth 100000 in
theorem k_X2_enterCall (l : Launch) (tA : Nat) (dC : Nat → ClassId) (dI : Nat → Nat → Nat) (cI cZ cJ : ClassId) (a_t : Nat) (a_tp : Nat) (a_tp_parameterCounts : Nat) (a_tp_fields : Nat) (a_ty : Nat) (a_ty_callCounts : Nat) (a_ty_latestValues : Nat) (a_ty_differing : Nat) (a_t_openFunctions : Nat) (a_t_openStatements : Nat) (a_t_registers : Nat) (a_t_inputs : Nat) (a_tp_lengths : Nat) (a_tp_entries : Nat) (a_ty_outputValues : Nat) (N : Nat) (x1 : Int32) (x2 : Int32) (x3 : Int32) (x4 : Int32) (t_inputCount : Int32) (t_inputsRead : Int32) (t_openCount : Int32) (tp_functionCount : Int32) (tp_entryCount : Int32) (tp_parameterCounts : Nat → Int32) (tp_fields : Nat → Int32) (ty_doneCount : Int32) (ty_outputCount : Int32) (ty_callCounts : Nat → Int32) (ty_latestValues : Nat → Int32) (ty_differing : Nat → Int32) (t_openFunctions : Nat → Int32) (t_openStatements : Nat → Int32) (t_registers : Nat → Int32) (out : Int32 × Int32 × (Nat → Int32) × (Nat → Int32) × (Nat → Int32) × (Nat → Int32) × (Nat → Int32) × (Nat → Int32)) (hf : f_X2_enterCall N x1 x2 x3 x4 t_openCount tp_parameterCounts tp_fields ty_callCounts ty_latestValues ty_differing t_openFunctions t_openStatements t_registers = some out) : g_Mi l yX2_enterCall cX2_enterCall 7 (some .boolean) r_X2_enterCall tA dC dI cI cZ cJ [.ref a_t, .int x1, .int x2, .int x3, .int x4] (w_X2_enterCall cI cZ cJ a_t a_tp a_tp_parameterCounts a_tp_fields a_ty a_ty_callCounts a_ty_latestValues a_ty_differing a_t_openFunctions a_t_openStatements a_t_registers a_t_inputs a_tp_lengths a_tp_entries a_ty_outputValues t_inputCount t_inputsRead t_openCount tp_functionCount tp_entryCount tp_parameterCounts tp_fields ty_doneCount ty_outputCount ty_callCounts ty_latestValues ty_differing t_openFunctions t_openStatements t_registers) (w_X2_enterCall cI cZ cJ a_t a_tp a_tp_parameterCounts a_tp_fields a_ty a_ty_callCounts a_ty_latestValues a_ty_differing a_t_openFunctions a_t_openStatements a_t_registers a_t_inputs a_tp_lengths a_tp_entries a_ty_outputValues t_inputCount t_inputsRead out.2.1 tp_functionCount tp_entryCount tp_parameterCounts tp_fields ty_doneCount ty_outputCount out.2.2.1 out.2.2.2.1 out.2.2.2.2.1 out.2.2.2.2.2.1 out.2.2.2.2.2.2.1 out.2.2.2.2.2.2.2) out.1 := by
  unfold f_X2_enterCall at hf
  refine ge_i (by decide) (Nat.le_of_ble_eq_true rfl) (fun p e s m below meth c A H locs ls hC hW hl => ?_)
  have hC : g_C p s m meth c _ cX2_enterCall 7 (some .boolean) RX2 := hC
  have hx := hC.1
  have hb := hC.2.1
  have hown := hC.2.2.2.2.1
  have hts := hC.2.2.2.2.2.1
  have hl : lv_has ls 7 [(0, .ref a_t), (1, .int x1), (2, .int x2), (3, .int x3), (4, .int x4)] := hl
  refine lv_aload_n hx hb dX2_enterCall_0 rfl (lv_at hl 0 rfl) ?_
  refine gs_get hC hW in_X2 0 8 rfl rfl (by decide) fl_X2_39 rfl dX2_enterCall_1 ?_
  refine lv_bipush (v := 11) hx hb dX2_enterCall_4 (by decide) ?_
  refine lv_icmp_lt (tgt := 11) hx hb dX2_enterCall_6 (by decide) (fun c11 => ?_) (fun c11 => ?_)
  · replace hf := (if_pos c11).symm.trans hf
    refine lv_aload_n hx hb dX2_enterCall_11 rfl (lv_at hl 0 rfl) ?_
    refine gs_get hC hW in_X2 0 8 rfl rfl (by decide) fl_X2_39 rfl dX2_enterCall_12 ?_
    refine lv_bipush (v := 6) hx hb dX2_enterCall_15 (by decide) ?_
    refine lv_imul hx hb dX2_enterCall_17 ?_
    refine lv_istore (lv' := [(5, .int (t_openCount * 6)), (0, .ref a_t), (1, .int x1), (2, .int x2), (3, .int x3), (4, .int x4)]) hx hb dX2_enterCall_18 hl (by decide) rfl (fun ls hl => ?_)
    refine lv_iconst (v := 0) hx hb dX2_enterCall_20 (by decide) ?_
    refine lv_istore (lv' := [(6, .int 0), (5, .int (t_openCount * 6)), (0, .ref a_t), (1, .int x1), (2, .int x2), (3, .int x3), (4, .int x4)]) hx hb dX2_enterCall_21 hl (by decide) rfl (fun ls hl => ?_)
    exact b_X2_enterCall_23 hC N _ _ _ _ _ _ _ _ _ _ hf _ _ _ hW (lv_sub hl [2, 3, 4, 5, 6, 1, 0] rfl)
  · replace hf := (if_neg c11).symm.trans hf
    refine lv_iconst (v := 0) hx hb dX2_enterCall_9 (by decide) ?_
    obtain rfl := Option.some.inj hf
    exact gs_rz hC hW rfl g_n0 dX2_enterCall_10

abbrev w_X2_doTableCall (cI cZ cJ : ClassId) (a_t : Nat) (a_tp : Nat) (a_tp_parameterCounts : Nat) (a_tp_fields : Nat) (a_tp_entries : Nat) (a_ty : Nat) (a_ty_callCounts : Nat) (a_ty_latestValues : Nat) (a_ty_differing : Nat) (a_t_openFunctions : Nat) (a_t_openStatements : Nat) (a_t_registers : Nat) (a_t_inputs : Nat) (a_tp_lengths : Nat) (a_ty_outputValues : Nat) (t_inputCount : Int32) (t_inputsRead : Int32) (t_openCount : Int32) (tp_functionCount : Int32) (tp_entryCount : Int32) (tp_parameterCounts : Nat → Int32) (tp_fields : Nat → Int32) (tp_entries : Nat → Int32) (ty_doneCount : Int32) (ty_outputCount : Int32) (ty_callCounts : Nat → Int32) (ty_latestValues : Nat → Int32) (ty_differing : Nat → Int32) (t_openFunctions : Nat → Int32) (t_openStatements : Nat → Int32) (t_registers : Nat → Int32) : va_W := [(a_t, .inr (2, [.ref a_tp, .ref a_ty, .ref a_t_inputs, .int t_inputCount, .int t_inputsRead, .ref a_t_openFunctions, .ref a_t_openStatements, .ref a_t_registers, .int t_openCount])), (a_tp, .inr (4, [.int tp_functionCount, .int tp_entryCount, .ref a_tp_parameterCounts, .ref a_tp_lengths, .ref a_tp_fields, .ref a_tp_entries])), (a_tp_parameterCounts, .inl (cI, 12, .inl tp_parameterCounts)), (a_tp_fields, .inl (cI, 1152, .inl tp_fields)), (a_tp_entries, .inl (cI, 4, .inl tp_entries)), (a_ty, .inr (6, [.int ty_doneCount, .int ty_outputCount, .ref a_ty_outputValues, .ref a_ty_callCounts, .ref a_ty_latestValues, .ref a_ty_differing])), (a_ty_callCounts, .inl (cI, 12, .inl ty_callCounts)), (a_ty_latestValues, .inl (cI, 36, .inl ty_latestValues)), (a_ty_differing, .inl (cZ, 36, .inl ty_differing)), (a_t_openFunctions, .inl (cI, 11, .inl t_openFunctions)), (a_t_openStatements, .inl (cI, 11, .inl t_openStatements)), (a_t_registers, .inl (cI, 66, .inl t_registers))]
abbrev r_X2_doTableCall : Room := { frames := 3, cells := 0, slots := 0, locals := 70 }
def f_X2_doTableCall (N : Nat) (x1 : Int32) (x2 : Int32) (x3 : Int32) (t_openCount : Int32) (tp_entryCount : Int32) (tp_parameterCounts : Nat → Int32) (tp_fields : Nat → Int32) (tp_entries : Nat → Int32) (ty_callCounts : Nat → Int32) (ty_latestValues : Nat → Int32) (ty_differing : Nat → Int32) (t_openFunctions : Nat → Int32) (t_openStatements : Nat → Int32) (t_registers : Nat → Int32) : Option (Int32 × Int32 × (Nat → Int32) × (Nat → Int32) × (Nat → Int32) × (Nat → Int32) × (Nat → Int32) × (Nat → Int32)) := (f_X4_fieldOf x1 x2 2 tp_fields).bind (fun o1 => (f_X2_valueOf x3 o1 t_registers).bind (fun o2 => (f_X4_entryFor o2 tp_entryCount tp_entries).bind (fun o3 => if o3 = (-1) then (f_X2_finish x1 x2 x3 0 tp_fields t_openStatements t_registers).bind (fun o7 => (g_zr o7.1).bind (fun v8 => some (v8, t_openCount, ty_callCounts, ty_latestValues, ty_differing, t_openFunctions, o7.2.1, o7.2.2))) else (f_X2_enterCall N x1 x2 x3 o3 t_openCount tp_parameterCounts tp_fields ty_callCounts ty_latestValues ty_differing t_openFunctions t_openStatements t_registers).bind (fun o5 => (g_zr o5.1).bind (fun v6 => some (v6, o5.2.1, o5.2.2.1, o5.2.2.2.1, o5.2.2.2.2.1, o5.2.2.2.2.2.1, o5.2.2.2.2.2.2.1, o5.2.2.2.2.2.2.2))))))
set_option maxHeartbeats 4000000 in
set_option maxRecDepth 100000 in
theorem k_X2_doTableCall (l : Launch) (tA : Nat) (dC : Nat → ClassId) (dI : Nat → Nat → Nat) (cI cZ cJ : ClassId) (a_t : Nat) (a_tp : Nat) (a_tp_parameterCounts : Nat) (a_tp_fields : Nat) (a_tp_entries : Nat) (a_ty : Nat) (a_ty_callCounts : Nat) (a_ty_latestValues : Nat) (a_ty_differing : Nat) (a_t_openFunctions : Nat) (a_t_openStatements : Nat) (a_t_registers : Nat) (a_t_inputs : Nat) (a_tp_lengths : Nat) (a_ty_outputValues : Nat) (N : Nat) (x1 : Int32) (x2 : Int32) (x3 : Int32) (t_inputCount : Int32) (t_inputsRead : Int32) (t_openCount : Int32) (tp_functionCount : Int32) (tp_entryCount : Int32) (tp_parameterCounts : Nat → Int32) (tp_fields : Nat → Int32) (tp_entries : Nat → Int32) (ty_doneCount : Int32) (ty_outputCount : Int32) (ty_callCounts : Nat → Int32) (ty_latestValues : Nat → Int32) (ty_differing : Nat → Int32) (t_openFunctions : Nat → Int32) (t_openStatements : Nat → Int32) (t_registers : Nat → Int32) (out : Int32 × Int32 × (Nat → Int32) × (Nat → Int32) × (Nat → Int32) × (Nat → Int32) × (Nat → Int32) × (Nat → Int32)) (hf : f_X2_doTableCall N x1 x2 x3 t_openCount tp_entryCount tp_parameterCounts tp_fields tp_entries ty_callCounts ty_latestValues ty_differing t_openFunctions t_openStatements t_registers = some out) : g_Mi l yX2_doTableCall cX2_doTableCall 5 (some .boolean) r_X2_doTableCall tA dC dI cI cZ cJ [.ref a_t, .int x1, .int x2, .int x3] (w_X2_doTableCall cI cZ cJ a_t a_tp a_tp_parameterCounts a_tp_fields a_tp_entries a_ty a_ty_callCounts a_ty_latestValues a_ty_differing a_t_openFunctions a_t_openStatements a_t_registers a_t_inputs a_tp_lengths a_ty_outputValues t_inputCount t_inputsRead t_openCount tp_functionCount tp_entryCount tp_parameterCounts tp_fields tp_entries ty_doneCount ty_outputCount ty_callCounts ty_latestValues ty_differing t_openFunctions t_openStatements t_registers) (w_X2_doTableCall cI cZ cJ a_t a_tp a_tp_parameterCounts a_tp_fields a_tp_entries a_ty a_ty_callCounts a_ty_latestValues a_ty_differing a_t_openFunctions a_t_openStatements a_t_registers a_t_inputs a_tp_lengths a_ty_outputValues t_inputCount t_inputsRead out.2.1 tp_functionCount tp_entryCount tp_parameterCounts tp_fields tp_entries ty_doneCount ty_outputCount out.2.2.1 out.2.2.2.1 out.2.2.2.2.1 out.2.2.2.2.2.1 out.2.2.2.2.2.2.1 out.2.2.2.2.2.2.2) out.1 := by
  unfold f_X2_doTableCall at hf
  refine ge_i (by decide) (Nat.le_of_ble_eq_true rfl) (fun p e s m below meth c A H locs ls hC hW hl => ?_)
  have hC : g_C p s m meth c _ cX2_doTableCall 5 (some .boolean) RX2 := hC
  have hx := hC.1
  have hb := hC.2.1
  have hown := hC.2.2.2.2.1
  have hts := hC.2.2.2.2.2.1
  have hl : lv_has ls 5 [(0, .ref a_t), (1, .int x1), (2, .int x2), (3, .int x3)] := hl
  refine lv_aload_n hx hb dX2_doTableCall_0 rfl (lv_at hl 0 rfl) ?_
  refine gs_get hC hW in_X2 0 0 rfl rfl (by decide) fl_X2_9 rfl dX2_doTableCall_1 ?_
  refine lv_aload_n hx hb dX2_doTableCall_4 rfl (lv_at hl 0 rfl) ?_
  refine lv_iload_n hx hb dX2_doTableCall_5 rfl (lv_at hl 3 rfl) ?_
  refine lv_aload_n hx hb dX2_doTableCall_6 rfl (lv_at hl 0 rfl) ?_
  refine gs_get hC hW in_X2 0 0 rfl rfl (by decide) fl_X2_9 rfl dX2_doTableCall_7 ?_
  refine lv_iload_n hx hb dX2_doTableCall_10 rfl (lv_at hl 1 rfl) ?_
  refine lv_iload_n hx hb dX2_doTableCall_11 rfl (lv_at hl 2 rfl) ?_
  refine lv_iconst (v := 2) hx hb dX2_doTableCall_12 (by decide) ?_
  obtain ⟨o1, h1, hf⟩ := g_bnd hf
  refine gs_callVi (ws' := w_X2_doTableCall cI cZ cJ a_t a_tp a_tp_parameterCounts a_tp_fields a_tp_entries a_ty a_ty_callCounts a_ty_latestValues a_ty_differing a_t_openFunctions a_t_openStatements a_t_registers a_t_inputs a_tp_lengths a_ty_outputValues t_inputCount t_inputsRead t_openCount tp_functionCount tp_entryCount tp_parameterCounts tp_fields tp_entries ty_doneCount ty_outputCount ty_callCounts ty_latestValues ty_differing t_openFunctions t_openStatements t_registers) hC hW (k_X4_fieldOf l tA dC dI cI cZ cJ a_tp a_tp_fields a_tp_parameterCounts a_tp_lengths a_tp_entries x1 x2 2 tp_functionCount tp_entryCount tp_fields _ h1) yk_X4_fieldOf lk_X2_68 iv_X4_fieldOf ⟨rfl, rfl⟩ ⟨Nat.le_of_ble_eq_true rfl, Nat.le_of_ble_eq_true rfl⟩ hl.1 1 rfl rfl [1, 3] [0, 2, 4, 5, 6, 7, 8, 9, 10, 11] [0, 10, 1, 11, 2, 3, 4, 5, 6, 7, 8, 9] rfl rfl rfl rfl (by decide) rfl rfl rfl rfl (Nat.le_of_ble_eq_true rfl) dX2_doTableCall_13 ⟨Nat.zero_le _, Nat.zero_le _⟩ (fun H locs hW => ?_)
  obtain ⟨o2, h2, hf⟩ := g_bnd hf
  refine gs_callVi (ws' := w_X2_doTableCall cI cZ cJ a_t a_tp a_tp_parameterCounts a_tp_fields a_tp_entries a_ty a_ty_callCounts a_ty_latestValues a_ty_differing a_t_openFunctions a_t_openStatements a_t_registers a_t_inputs a_tp_lengths a_ty_outputValues t_inputCount t_inputsRead t_openCount tp_functionCount tp_entryCount tp_parameterCounts tp_fields tp_entries ty_doneCount ty_outputCount ty_callCounts ty_latestValues ty_differing t_openFunctions t_openStatements t_registers) hC hW (k_X2_valueOf l tA dC dI cI cZ cJ a_t a_t_registers a_tp a_ty a_t_inputs a_t_openFunctions a_t_openStatements x3 o1 t_inputCount t_inputsRead t_openCount t_registers _ h2) yk_X2_valueOf lk_X2_72 iv_X2_valueOf ⟨rfl, rfl⟩ ⟨Nat.le_of_ble_eq_true rfl, Nat.le_of_ble_eq_true rfl⟩ hl.1 0 rfl rfl [0, 11] [1, 2, 3, 4, 5, 6, 7, 8, 9, 10] [10, 0, 1, 2, 3, 4, 5, 6, 7, 8, 9, 11] rfl rfl rfl rfl (by decide) rfl rfl rfl rfl (Nat.le_of_ble_eq_true rfl) dX2_doTableCall_16 ⟨Nat.zero_le _, Nat.zero_le _⟩ (fun H locs hW => ?_)
  obtain ⟨o3, h3, hf⟩ := g_bnd hf
  refine gs_callVi (ws' := w_X2_doTableCall cI cZ cJ a_t a_tp a_tp_parameterCounts a_tp_fields a_tp_entries a_ty a_ty_callCounts a_ty_latestValues a_ty_differing a_t_openFunctions a_t_openStatements a_t_registers a_t_inputs a_tp_lengths a_ty_outputValues t_inputCount t_inputsRead t_openCount tp_functionCount tp_entryCount tp_parameterCounts tp_fields tp_entries ty_doneCount ty_outputCount ty_callCounts ty_latestValues ty_differing t_openFunctions t_openStatements t_registers) hC hW (k_X4_entryFor l tA dC dI cI cZ cJ a_tp a_tp_entries a_tp_parameterCounts a_tp_lengths a_tp_fields o2 tp_functionCount tp_entryCount tp_entries _ h3) yk_X4_entryFor lk_X2_97 iv_X4_entryFor ⟨rfl, rfl⟩ ⟨Nat.le_of_ble_eq_true rfl, Nat.le_of_ble_eq_true rfl⟩ hl.1 1 rfl rfl [1, 4] [0, 2, 3, 5, 6, 7, 8, 9, 10, 11] [0, 10, 1, 2, 11, 3, 4, 5, 6, 7, 8, 9] rfl rfl rfl rfl (by decide) rfl rfl rfl rfl (Nat.le_of_ble_eq_true rfl) dX2_doTableCall_19 ⟨Nat.zero_le _, Nat.zero_le _⟩ (fun H locs hW => ?_)
  refine lv_istore (lv' := [(4, .int o3), (0, .ref a_t), (1, .int x1), (2, .int x2), (3, .int x3)]) hx hb dX2_doTableCall_22 hl (by decide) rfl (fun ls hl => ?_)
  refine lv_iload hx hb dX2_doTableCall_24 (lv_at hl 0 rfl) ?_
  refine lv_iconst (v := (-1)) hx hb dX2_doTableCall_26 (by decide) ?_
  refine lv_icmp_ne (tgt := 39) hx hb dX2_doTableCall_27 (by decide) (fun c4 => ?_) (fun c4 => ?_)
  · replace hf := (if_neg c4).symm.trans hf
    refine lv_aload_n hx hb dX2_doTableCall_39 rfl (lv_at hl 1 rfl) ?_
    refine lv_iload_n hx hb dX2_doTableCall_40 rfl (lv_at hl 2 rfl) ?_
    refine lv_iload_n hx hb dX2_doTableCall_41 rfl (lv_at hl 3 rfl) ?_
    refine lv_iload_n hx hb dX2_doTableCall_42 rfl (lv_at hl 4 rfl) ?_
    refine lv_iload hx hb dX2_doTableCall_43 (lv_at hl 0 rfl) ?_
    obtain ⟨o5, h5, hf⟩ := g_bnd hf
    refine gs_callVi (ws' := w_X2_doTableCall cI cZ cJ a_t a_tp a_tp_parameterCounts a_tp_fields a_tp_entries a_ty a_ty_callCounts a_ty_latestValues a_ty_differing a_t_openFunctions a_t_openStatements a_t_registers a_t_inputs a_tp_lengths a_ty_outputValues t_inputCount t_inputsRead o5.2.1 tp_functionCount tp_entryCount tp_parameterCounts tp_fields tp_entries ty_doneCount ty_outputCount o5.2.2.1 o5.2.2.2.1 o5.2.2.2.2.1 o5.2.2.2.2.2.1 o5.2.2.2.2.2.2.1 o5.2.2.2.2.2.2.2) hC hW (k_X2_enterCall l tA dC dI cI cZ cJ a_t a_tp a_tp_parameterCounts a_tp_fields a_ty a_ty_callCounts a_ty_latestValues a_ty_differing a_t_openFunctions a_t_openStatements a_t_registers a_t_inputs a_tp_lengths a_tp_entries a_ty_outputValues N x1 x2 x3 o3 t_inputCount t_inputsRead t_openCount tp_functionCount tp_entryCount tp_parameterCounts tp_fields ty_doneCount ty_outputCount ty_callCounts ty_latestValues ty_differing t_openFunctions t_openStatements t_registers _ h5) yk_X2_enterCall lk_X2_88 iv_X2_enterCall ⟨rfl, rfl⟩ ⟨Nat.le_of_ble_eq_true rfl, Nat.le_of_ble_eq_true rfl⟩ hl.1 0 rfl rfl [0, 1, 2, 3, 5, 6, 7, 8, 9, 10, 11] [4] [1, 2, 3, 4, 0, 5, 6, 7, 8, 9, 10, 11] rfl rfl rfl rfl (by decide) rfl rfl rfl rfl (Nat.le_of_ble_eq_true rfl) dX2_doTableCall_45 ⟨Nat.zero_le _, Nat.zero_le _⟩ (fun H locs hW => ?_)
    obtain ⟨v6, h6, hf⟩ := g_bnd hf
    obtain ⟨rfl, hn, -⟩ := g_zr_ok h6
    obtain rfl := Option.some.inj hf
    exact gs_rz hC hW rfl hn dX2_doTableCall_48
  · replace hf := (if_pos c4).symm.trans hf
    refine lv_aload_n hx hb dX2_doTableCall_30 rfl (lv_at hl 1 rfl) ?_
    refine lv_iload_n hx hb dX2_doTableCall_31 rfl (lv_at hl 2 rfl) ?_
    refine lv_iload_n hx hb dX2_doTableCall_32 rfl (lv_at hl 3 rfl) ?_
    refine lv_iload_n hx hb dX2_doTableCall_33 rfl (lv_at hl 4 rfl) ?_
    refine lv_iconst (v := 0) hx hb dX2_doTableCall_34 (by decide) ?_
    obtain ⟨o7, h7, hf⟩ := g_bnd hf
    refine gs_callVi (ws' := w_X2_doTableCall cI cZ cJ a_t a_tp a_tp_parameterCounts a_tp_fields a_tp_entries a_ty a_ty_callCounts a_ty_latestValues a_ty_differing a_t_openFunctions a_t_openStatements a_t_registers a_t_inputs a_tp_lengths a_ty_outputValues t_inputCount t_inputsRead t_openCount tp_functionCount tp_entryCount tp_parameterCounts tp_fields tp_entries ty_doneCount ty_outputCount ty_callCounts ty_latestValues ty_differing t_openFunctions o7.2.1 o7.2.2) hC hW (k_X2_finish l tA dC dI cI cZ cJ a_t a_tp a_tp_fields a_t_openStatements a_t_registers a_ty a_t_inputs a_t_openFunctions a_tp_parameterCounts a_tp_lengths a_tp_entries x1 x2 x3 0 t_inputCount t_inputsRead t_openCount tp_functionCount tp_entryCount tp_fields t_openStatements t_registers _ h7) yk_X2_finish lk_X2_80 iv_X2_finish ⟨rfl, rfl⟩ ⟨Nat.le_of_ble_eq_true rfl, Nat.le_of_ble_eq_true rfl⟩ hl.1 0 rfl rfl [0, 1, 3, 10, 11] [2, 4, 5, 6, 7, 8, 9] [7, 8, 0, 9, 1, 2, 3, 4, 5, 6, 10, 11] rfl rfl rfl rfl (by decide) rfl rfl rfl rfl (Nat.le_of_ble_eq_true rfl) dX2_doTableCall_35 ⟨Nat.zero_le _, Nat.zero_le _⟩ (fun H locs hW => ?_)
    obtain ⟨v8, h8, hf⟩ := g_bnd hf
    obtain ⟨rfl, hn, -⟩ := g_zr_ok h8
    obtain rfl := Option.some.inj hf
    exact gs_rz hC hW rfl hn dX2_doTableCall_38

abbrev w_X2_leaveCall (cI cZ cJ : ClassId) (a_t : Nat) (a_tp : Nat) (a_tp_fields : Nat) (a_t_openFunctions : Nat) (a_t_openStatements : Nat) (a_t_registers : Nat) (a_ty : Nat) (a_t_inputs : Nat) (a_tp_parameterCounts : Nat) (a_tp_lengths : Nat) (a_tp_entries : Nat) (t_inputCount : Int32) (t_inputsRead : Int32) (t_openCount : Int32) (tp_functionCount : Int32) (tp_entryCount : Int32) (tp_fields : Nat → Int32) (t_openFunctions : Nat → Int32) (t_openStatements : Nat → Int32) (t_registers : Nat → Int32) : va_W := [(a_t, .inr (2, [.ref a_tp, .ref a_ty, .ref a_t_inputs, .int t_inputCount, .int t_inputsRead, .ref a_t_openFunctions, .ref a_t_openStatements, .ref a_t_registers, .int t_openCount])), (a_tp, .inr (4, [.int tp_functionCount, .int tp_entryCount, .ref a_tp_parameterCounts, .ref a_tp_lengths, .ref a_tp_fields, .ref a_tp_entries])), (a_tp_fields, .inl (cI, 1152, .inl tp_fields)), (a_t_openFunctions, .inl (cI, 11, .inl t_openFunctions)), (a_t_openStatements, .inl (cI, 11, .inl t_openStatements)), (a_t_registers, .inl (cI, 66, .inl t_registers))]
abbrev r_X2_leaveCall : Room := { frames := 3, cells := 0, slots := 0, locals := 68 }
def f_X2_leaveCall (x1 : Int32) (t_openCount : Int32) (tp_fields : Nat → Int32) (t_openFunctions : Nat → Int32) (t_openStatements : Nat → Int32) (t_registers : Nat → Int32) : Option (Int32 × (Nat → Int32) × (Nat → Int32)) := if (t_openCount - 1) ≤ 0 then some (t_openCount - 1, t_openStatements, t_registers) else (g_rd 11 t_openFunctions ((t_openCount - 1) - 1)).bind (fun v2 => (g_rd 11 t_openStatements ((t_openCount - 1) - 1)).bind (fun v3 => (f_X2_finish v2 v3 ((t_openCount - 1) - 1) x1 tp_fields t_openStatements t_registers).bind (fun o4 => some (t_openCount - 1, o4.2.1, o4.2.2))))
set_option maxHeartbeats 4000000 in
set_option maxRecDepth 100000 in
theorem k_X2_leaveCall (l : Launch) (tA : Nat) (dC : Nat → ClassId) (dI : Nat → Nat → Nat) (cI cZ cJ : ClassId) (a_t : Nat) (a_tp : Nat) (a_tp_fields : Nat) (a_t_openFunctions : Nat) (a_t_openStatements : Nat) (a_t_registers : Nat) (a_ty : Nat) (a_t_inputs : Nat) (a_tp_parameterCounts : Nat) (a_tp_lengths : Nat) (a_tp_entries : Nat) (x1 : Int32) (t_inputCount : Int32) (t_inputsRead : Int32) (t_openCount : Int32) (tp_functionCount : Int32) (tp_entryCount : Int32) (tp_fields : Nat → Int32) (t_openFunctions : Nat → Int32) (t_openStatements : Nat → Int32) (t_registers : Nat → Int32) (out : Int32 × (Nat → Int32) × (Nat → Int32)) (hf : f_X2_leaveCall x1 t_openCount tp_fields t_openFunctions t_openStatements t_registers = some out) : g_Mv l yX2_leaveCall cX2_leaveCall 3 (none : Option Jvm.ClassFile.FieldType) r_X2_leaveCall tA dC dI cI cZ cJ [.ref a_t, .int x1] (w_X2_leaveCall cI cZ cJ a_t a_tp a_tp_fields a_t_openFunctions a_t_openStatements a_t_registers a_ty a_t_inputs a_tp_parameterCounts a_tp_lengths a_tp_entries t_inputCount t_inputsRead t_openCount tp_functionCount tp_entryCount tp_fields t_openFunctions t_openStatements t_registers) (w_X2_leaveCall cI cZ cJ a_t a_tp a_tp_fields a_t_openFunctions a_t_openStatements a_t_registers a_ty a_t_inputs a_tp_parameterCounts a_tp_lengths a_tp_entries t_inputCount t_inputsRead out.1 tp_functionCount tp_entryCount tp_fields t_openFunctions out.2.1 out.2.2) := by
  unfold f_X2_leaveCall at hf
  refine ge_v (by decide) (Nat.le_of_ble_eq_true rfl) (fun p e s m below meth c A H locs ls hC hW hl => ?_)
  have hC : g_C p s m meth c _ cX2_leaveCall 3 (none : Option Jvm.ClassFile.FieldType) RX2 := hC
  have hx := hC.1
  have hb := hC.2.1
  have hown := hC.2.2.2.2.1
  have hts := hC.2.2.2.2.2.1
  have hl : lv_has ls 3 [(0, .ref a_t), (1, .int x1)] := hl
  refine lv_aload_n hx hb dX2_leaveCall_0 rfl (lv_at hl 0 rfl) ?_
  refine lv_dup hx hb dX2_leaveCall_1 rfl ?_
  refine gs_get hC hW in_X2 0 8 rfl rfl (by decide) fl_X2_39 rfl dX2_leaveCall_2 ?_
  refine lv_iconst (v := 1) hx hb dX2_leaveCall_5 (by decide) ?_
  refine lv_isub hx hb dX2_leaveCall_6 ?_
  refine gs_put (ws' := w_X2_leaveCall cI cZ cJ a_t a_tp a_tp_fields a_t_openFunctions a_t_openStatements a_t_registers a_ty a_t_inputs a_tp_parameterCounts a_tp_lengths a_tp_entries t_inputCount t_inputsRead (t_openCount - 1) tp_functionCount tp_entryCount tp_fields t_openFunctions t_openStatements t_registers) hC hW in_X2 tyX2_ok nmX2 0 8 rfl rfl (by decide) fl_X2_39 rfl rfl rfl (Nat.le_of_ble_eq_true rfl) rfl dX2_leaveCall_7 (fun H locs hW => ?_)
  refine lv_aload_n hx hb dX2_leaveCall_10 rfl (lv_at hl 0 rfl) ?_
  refine gs_get hC hW in_X2 0 8 rfl rfl (by decide) fl_X2_39 rfl dX2_leaveCall_11 ?_
  refine lv_if_le (tgt := 43) hx hb dX2_leaveCall_14 (by decide) (fun c1 => ?_) (fun c1 => ?_)
  · replace hf := (if_pos c1).symm.trans hf
    obtain rfl := Option.some.inj hf
    exact gs_rv hC hW rfl dX2_leaveCall_43
  · replace hf := (if_neg c1).symm.trans hf
    refine lv_aload_n hx hb dX2_leaveCall_17 rfl (lv_at hl 0 rfl) ?_
    refine gs_get hC hW in_X2 0 8 rfl rfl (by decide) fl_X2_39 rfl dX2_leaveCall_18 ?_
    refine lv_iconst (v := 1) hx hb dX2_leaveCall_21 (by decide) ?_
    refine lv_isub hx hb dX2_leaveCall_22 ?_
    refine lv_istore_n (lv' := [(2, .int ((t_openCount - 1) - 1)), (0, .ref a_t), (1, .int x1)]) hx hb dX2_leaveCall_23 rfl hl (by decide) rfl (fun ls hl => ?_)
    refine lv_aload_n hx hb dX2_leaveCall_24 rfl (lv_at hl 1 rfl) ?_
    refine lv_aload_n hx hb dX2_leaveCall_25 rfl (lv_at hl 1 rfl) ?_
    refine gs_get hC hW in_X2 0 5 rfl rfl (by decide) fl_X2_30 rfl dX2_leaveCall_26 ?_
    refine lv_iload_n hx hb dX2_leaveCall_29 rfl (lv_at hl 0 rfl) ?_
    obtain ⟨v2, h2, hf⟩ := g_bnd hf
    refine gs_iald hC hW 3 h2 rfl dX2_leaveCall_30 ?_
    refine lv_aload_n hx hb dX2_leaveCall_31 rfl (lv_at hl 1 rfl) ?_
    refine gs_get hC hW in_X2 0 6 rfl rfl (by decide) fl_X2_33 rfl dX2_leaveCall_32 ?_
    refine lv_iload_n hx hb dX2_leaveCall_35 rfl (lv_at hl 0 rfl) ?_
    obtain ⟨v3, h3, hf⟩ := g_bnd hf
    refine gs_iald hC hW 4 h3 rfl dX2_leaveCall_36 ?_
    refine lv_iload_n hx hb dX2_leaveCall_37 rfl (lv_at hl 0 rfl) ?_
    refine lv_iload_n hx hb dX2_leaveCall_38 rfl (lv_at hl 2 rfl) ?_
    obtain ⟨o4, h4, hf⟩ := g_bnd hf
    refine gs_callVi (ws' := w_X2_leaveCall cI cZ cJ a_t a_tp a_tp_fields a_t_openFunctions a_t_openStatements a_t_registers a_ty a_t_inputs a_tp_parameterCounts a_tp_lengths a_tp_entries t_inputCount t_inputsRead (t_openCount - 1) tp_functionCount tp_entryCount tp_fields t_openFunctions o4.2.1 o4.2.2) hC hW (k_X2_finish l tA dC dI cI cZ cJ a_t a_tp a_tp_fields a_t_openStatements a_t_registers a_ty a_t_inputs a_t_openFunctions a_tp_parameterCounts a_tp_lengths a_tp_entries v2 v3 ((t_openCount - 1) - 1) x1 t_inputCount t_inputsRead (t_openCount - 1) tp_functionCount tp_entryCount tp_fields t_openStatements t_registers _ h4) yk_X2_finish lk_X2_80 iv_X2_finish ⟨rfl, rfl⟩ ⟨Nat.le_of_ble_eq_true rfl, Nat.le_of_ble_eq_true rfl⟩ hl.1 0 rfl rfl [0, 1, 2, 4, 5] [3] [1, 2, 3, 0, 4, 5] rfl rfl rfl rfl (by decide) rfl rfl rfl rfl (Nat.le_of_ble_eq_true rfl) dX2_leaveCall_39 ⟨Nat.zero_le _, Nat.zero_le _⟩ (fun H locs hW => ?_)
    refine lv_pop hx hb dX2_leaveCall_42 rfl ?_
    obtain rfl := Option.some.inj hf
    exact gs_rv hC hW rfl dX2_leaveCall_43

abbrev w_X2_nextInput (cI cZ cJ : ClassId) (a_t : Nat) (a_t_inputs : Nat) (a_tp : Nat) (a_ty : Nat) (a_t_openFunctions : Nat) (a_t_openStatements : Nat) (a_t_registers : Nat) (t_inputCount : Int32) (t_inputsRead : Int32) (t_openCount : Int32) (t_inputs : Nat → Int32) : va_W := [(a_t, .inr (2, [.ref a_tp, .ref a_ty, .ref a_t_inputs, .int t_inputCount, .int t_inputsRead, .ref a_t_openFunctions, .ref a_t_openStatements, .ref a_t_registers, .int t_openCount])), (a_t_inputs, .inl (cI, 12, .inl t_inputs))]
abbrev r_X2_nextInput : Room := { frames := 0, cells := 0, slots := 0, locals := 0 }
def f_X2_nextInput (t_inputCount : Int32) (t_inputsRead : Int32) (t_inputs : Nat → Int32) : Option (Int32 × Int32) := if t_inputsRead < t_inputCount then (g_rd 12 t_inputs t_inputsRead).bind (fun v2 => some (v2, t_inputsRead + 1)) else some (0, t_inputsRead)
set_option maxHeartbeats 4000000 in
set_option maxRecDepth 100000 in
theorem k_X2_nextInput (l : Launch) (tA : Nat) (dC : Nat → ClassId) (dI : Nat → Nat → Nat) (cI cZ cJ : ClassId) (a_t : Nat) (a_t_inputs : Nat) (a_tp : Nat) (a_ty : Nat) (a_t_openFunctions : Nat) (a_t_openStatements : Nat) (a_t_registers : Nat) (t_inputCount : Int32) (t_inputsRead : Int32) (t_openCount : Int32) (t_inputs : Nat → Int32) (out : Int32 × Int32) (hf : f_X2_nextInput t_inputCount t_inputsRead t_inputs = some out) : g_Mi l yX2_nextInput cX2_nextInput 2 (some .int) r_X2_nextInput tA dC dI cI cZ cJ [.ref a_t] (w_X2_nextInput cI cZ cJ a_t a_t_inputs a_tp a_ty a_t_openFunctions a_t_openStatements a_t_registers t_inputCount t_inputsRead t_openCount t_inputs) (w_X2_nextInput cI cZ cJ a_t a_t_inputs a_tp a_ty a_t_openFunctions a_t_openStatements a_t_registers t_inputCount out.2 t_openCount t_inputs) out.1 := by
  unfold f_X2_nextInput at hf
  refine ge_i (by decide) (Nat.le_of_ble_eq_true rfl) (fun p e s m below meth c A H locs ls hC hW hl => ?_)
  have hC : g_C p s m meth c _ cX2_nextInput 2 (some .int) RX2 := hC
  have hx := hC.1
  have hb := hC.2.1
  have hown := hC.2.2.2.2.1
  have hts := hC.2.2.2.2.2.1
  have hl : lv_has ls 2 [(0, .ref a_t)] := hl
  refine lv_aload_n hx hb dX2_nextInput_0 rfl (lv_at hl 0 rfl) ?_
  refine gs_get hC hW in_X2 0 4 rfl rfl (by decide) fl_X2_27 rfl dX2_nextInput_1 ?_
  refine lv_aload_n hx hb dX2_nextInput_4 rfl (lv_at hl 0 rfl) ?_
  refine gs_get hC hW in_X2 0 3 rfl rfl (by decide) fl_X2_23 rfl dX2_nextInput_5 ?_
  refine lv_icmp_lt (tgt := 13) hx hb dX2_nextInput_8 (by decide) (fun c1 => ?_) (fun c1 => ?_)
  · replace hf := (if_pos c1).symm.trans hf
    refine lv_aload_n hx hb dX2_nextInput_13 rfl (lv_at hl 0 rfl) ?_
    refine gs_get hC hW in_X2 0 2 rfl rfl (by decide) fl_X2_19 rfl dX2_nextInput_14 ?_
    refine lv_aload_n hx hb dX2_nextInput_17 rfl (lv_at hl 0 rfl) ?_
    refine gs_get hC hW in_X2 0 4 rfl rfl (by decide) fl_X2_27 rfl dX2_nextInput_18 ?_
    obtain ⟨v2, h2, hf⟩ := g_bnd hf
    refine gs_iald hC hW 1 h2 rfl dX2_nextInput_21 ?_
    refine lv_istore_n (lv' := [(1, .int v2), (0, .ref a_t)]) hx hb dX2_nextInput_22 rfl hl (by decide) rfl (fun ls hl => ?_)
    refine lv_aload_n hx hb dX2_nextInput_23 rfl (lv_at hl 1 rfl) ?_
    refine lv_dup hx hb dX2_nextInput_24 rfl ?_
    refine gs_get hC hW in_X2 0 4 rfl rfl (by decide) fl_X2_27 rfl dX2_nextInput_25 ?_
    refine lv_iconst (v := 1) hx hb dX2_nextInput_28 (by decide) ?_
    refine lv_iadd hx hb dX2_nextInput_29 ?_
    refine gs_put (ws' := w_X2_nextInput cI cZ cJ a_t a_t_inputs a_tp a_ty a_t_openFunctions a_t_openStatements a_t_registers t_inputCount (t_inputsRead + 1) t_openCount t_inputs) hC hW in_X2 tyX2_ok nmX2 0 4 rfl rfl (by decide) fl_X2_27 rfl rfl rfl (Nat.le_of_ble_eq_true rfl) rfl dX2_nextInput_30 (fun H locs hW => ?_)
    refine lv_iload_n hx hb dX2_nextInput_33 rfl (lv_at hl 0 rfl) ?_
    obtain rfl := Option.some.inj hf
    exact gs_ri hC hW rfl dX2_nextInput_34
  · replace hf := (if_neg c1).symm.trans hf
    refine lv_iconst (v := 0) hx hb dX2_nextInput_11 (by decide) ?_
    obtain rfl := Option.some.inj hf
    exact gs_ri hC hW rfl dX2_nextInput_12

abbrev w_X2_doStatement (cI cZ cJ : ClassId) (a_t : Nat) (a_tp : Nat) (a_tp_parameterCounts : Nat) (a_tp_fields : Nat) (a_tp_entries : Nat) (a_ty : Nat) (a_ty_outputValues : Nat) (a_ty_callCounts : Nat) (a_ty_latestValues : Nat) (a_ty_differing : Nat) (a_t_inputs : Nat) (a_t_openFunctions : Nat) (a_t_openStatements : Nat) (a_t_registers : Nat) (a_tp_lengths : Nat) (t_inputCount : Int32) (t_inputsRead : Int32) (t_openCount : Int32) (tp_functionCount : Int32) (tp_entryCount : Int32) (tp_parameterCounts : Nat → Int32) (tp_fields : Nat → Int32) (tp_entries : Nat → Int32) (ty_doneCount : Int32) (ty_outputCount : Int32) (ty_outputValues : Nat → Int32) (ty_callCounts : Nat → Int32) (ty_latestValues : Nat → Int32) (ty_differing : Nat → Int32) (t_inputs : Nat → Int32) (t_openFunctions : Nat → Int32) (t_openStatements : Nat → Int32) (t_registers : Nat → Int32) : va_W := [(a_t, .inr (2, [.ref a_tp, .ref a_ty, .ref a_t_inputs, .int t_inputCount, .int t_inputsRead, .ref a_t_openFunctions, .ref a_t_openStatements, .ref a_t_registers, .int t_openCount])), (a_tp, .inr (4, [.int tp_functionCount, .int tp_entryCount, .ref a_tp_parameterCounts, .ref a_tp_lengths, .ref a_tp_fields, .ref a_tp_entries])), (a_tp_parameterCounts, .inl (cI, 12, .inl tp_parameterCounts)), (a_tp_fields, .inl (cI, 1152, .inl tp_fields)), (a_tp_entries, .inl (cI, 4, .inl tp_entries)), (a_ty, .inr (6, [.int ty_doneCount, .int ty_outputCount, .ref a_ty_outputValues, .ref a_ty_callCounts, .ref a_ty_latestValues, .ref a_ty_differing])), (a_ty_outputValues, .inl (cI, 40, .inl ty_outputValues)), (a_ty_callCounts, .inl (cI, 12, .inl ty_callCounts)), (a_ty_latestValues, .inl (cI, 36, .inl ty_latestValues)), (a_ty_differing, .inl (cZ, 36, .inl ty_differing)), (a_t_inputs, .inl (cI, 12, .inl t_inputs)), (a_t_openFunctions, .inl (cI, 11, .inl t_openFunctions)), (a_t_openStatements, .inl (cI, 11, .inl t_openStatements)), (a_t_registers, .inl (cI, 66, .inl t_registers))]
abbrev r_X2_doStatement : Room := { frames := 4, cells := 0, slots := 0, locals := 94 }
def f_X2_doStatement (N : Nat) (x1 : Int32) (x2 : Int32) (x3 : Int32) (t_inputCount : Int32) (t_inputsRead : Int32) (t_openCount : Int32) (tp_entryCount : Int32) (tp_parameterCounts : Nat → Int32) (tp_fields : Nat → Int32) (tp_entries : Nat → Int32) (ty_outputCount : Int32) (ty_outputValues : Nat → Int32) (ty_callCounts : Nat → Int32) (ty_latestValues : Nat → Int32) (ty_differing : Nat → Int32) (t_inputs : Nat → Int32) (t_openFunctions : Nat → Int32) (t_openStatements : Nat → Int32) (t_registers : Nat → Int32) : Option (Int32 × Int32 × Int32 × Int32 × (Nat → Int32) × (Nat → Int32) × (Nat → Int32) × (Nat → Int32) × (Nat → Int32) × (Nat → Int32) × (Nat → Int32)) := (f_X4_fieldOf x1 x2 0 tp_fields).bind (fun o1 => (f_X4_fieldOf x1 x2 3 tp_fields).bind (fun o2 => (f_X2_valueOf x3 o2 t_registers).bind (fun o3 => if o1 = 5 then (f_X2_nextInput t_inputCount t_inputsRead t_inputs).bind (fun o5 => (f_X2_finish x1 x2 x3 o5.1 tp_fields t_openStatements t_registers).bind (fun o6 => (g_zr o6.1).bind (fun v7 => some (v7, o5.2, t_openCount, ty_outputCount, ty_outputValues, ty_callCounts, ty_latestValues, ty_differing, t_openFunctions, o6.2.1, o6.2.2)))) else if o1 = 6 then (g_wr 11 t_openStatements x3 (x2 + 1)).bind (fun s9 => (f_X6_addOutput o3 ty_outputCount ty_outputValues).bind (fun o10 => (g_zr o10.1).bind (fun v11 => some (v11, t_inputsRead, t_openCount, o10.2.1, o10.2.2, ty_callCounts, ty_latestValues, ty_differing, t_openFunctions, s9, t_registers)))) else if o1 = 7 then if o3 = 0 then (g_wr 11 t_openStatements x3 (x2 + 1)).bind (fun s14 => some (1, t_inputsRead, t_openCount, ty_outputCount, ty_outputValues, ty_callCounts, ty_latestValues, ty_differing, t_openFunctions, s14, t_registers)) else (f_X4_fieldOf x1 x2 2 tp_fields).bind (fun o15 => (g_wr 11 t_openStatements x3 o15).bind (fun s16 => some (1, t_inputsRead, t_openCount, ty_outputCount, ty_outputValues, ty_callCounts, ty_latestValues, ty_differing, t_openFunctions, s16, t_registers))) else if o1 = 8 then (f_X4_fieldOf x1 x2 2 tp_fields).bind (fun o18 => (g_wr 11 t_openStatements x3 o18).bind (fun s19 => some (1, t_inputsRead, t_openCount, ty_outputCount, ty_outputValues, ty_callCounts, ty_latestValues, ty_differing, t_openFunctions, s19, t_registers))) else if o1 = 9 then (f_X2_leaveCall o3 t_openCount tp_fields t_openFunctions t_openStatements t_registers).bind (fun o21 => some (1, t_inputsRead, o21.1, ty_outputCount, ty_outputValues, ty_callCounts, ty_latestValues, ty_differing, t_openFunctions, o21.2.1, o21.2.2)) else if o1 = 10 then (f_X4_fieldOf x1 x2 2 tp_fields).bind (fun o23 => (f_X2_enterCall N x1 x2 x3 o23 t_openCount tp_parameterCounts tp_fields ty_callCounts ty_latestValues ty_differing t_openFunctions t_openStatements t_registers).bind (fun o24 => (g_zr o24.1).bind (fun v25 => some (v25, t_inputsRead, o24.2.1, ty_outputCount, ty_outputValues, o24.2.2.1, o24.2.2.2.1, o24.2.2.2.2.1, o24.2.2.2.2.2.1, o24.2.2.2.2.2.2.1, o24.2.2.2.2.2.2.2)))) else if o1 = 11 then (f_X2_doTableCall N x1 x2 x3 t_openCount tp_entryCount tp_parameterCounts tp_fields tp_entries ty_callCounts ty_latestValues ty_differing t_openFunctions t_openStatements t_registers).bind (fun o27 => (g_zr o27.1).bind (fun v28 => some (v28, t_inputsRead, o27.2.1, ty_outputCount, ty_outputValues, o27.2.2.1, o27.2.2.2.1, o27.2.2.2.2.1, o27.2.2.2.2.2.1, o27.2.2.2.2.2.2.1, o27.2.2.2.2.2.2.2))) else if o1 = 12 then (g_wr 11 t_openStatements x3 (x2 + 1)).bind (fun s30 => some (1, t_inputsRead, t_openCount, ty_outputCount, ty_outputValues, ty_callCounts, ty_latestValues, ty_differing, t_openFunctions, s30, t_registers)) else (f_X4_fieldOf x1 x2 4 tp_fields).bind (fun o31 => (f_X2_valueOf x3 o31 t_registers).bind (fun o32 => (f_X7_compute o1 o3 o32).bind (fun o33 => (f_X2_finish x1 x2 x3 o33 tp_fields t_openStatements t_registers).bind (fun o34 => (g_zr o34.1).bind (fun v35 => some (v35, t_inputsRead, t_openCount, ty_outputCount, ty_outputValues, ty_callCounts, ty_latestValues, ty_differing, t_openFunctions, o34.2.1, o34.2.2)))))))))
set_option maxHeartbeats 4000000 in
set_option maxRecDepth 100000 in
theorem k_X2_doStatement (l : Launch) (tA : Nat) (dC : Nat → ClassId) (dI : Nat → Nat → Nat) (cI cZ cJ : ClassId) (a_t : Nat) (a_tp : Nat) (a_tp_parameterCounts : Nat) (a_tp_fields : Nat) (a_tp_entries : Nat) (a_ty : Nat) (a_ty_outputValues : Nat) (a_ty_callCounts : Nat) (a_ty_latestValues : Nat) (a_ty_differing : Nat) (a_t_inputs : Nat) (a_t_openFunctions : Nat) (a_t_openStatements : Nat) (a_t_registers : Nat) (a_tp_lengths : Nat) (N : Nat) (x1 : Int32) (x2 : Int32) (x3 : Int32) (t_inputCount : Int32) (t_inputsRead : Int32) (t_openCount : Int32) (tp_functionCount : Int32) (tp_entryCount : Int32) (tp_parameterCounts : Nat → Int32) (tp_fields : Nat → Int32) (tp_entries : Nat → Int32) (ty_doneCount : Int32) (ty_outputCount : Int32) (ty_outputValues : Nat → Int32) (ty_callCounts : Nat → Int32) (ty_latestValues : Nat → Int32) (ty_differing : Nat → Int32) (t_inputs : Nat → Int32) (t_openFunctions : Nat → Int32) (t_openStatements : Nat → Int32) (t_registers : Nat → Int32) (out : Int32 × Int32 × Int32 × Int32 × (Nat → Int32) × (Nat → Int32) × (Nat → Int32) × (Nat → Int32) × (Nat → Int32) × (Nat → Int32) × (Nat → Int32)) (hf : f_X2_doStatement N x1 x2 x3 t_inputCount t_inputsRead t_openCount tp_entryCount tp_parameterCounts tp_fields tp_entries ty_outputCount ty_outputValues ty_callCounts ty_latestValues ty_differing t_inputs t_openFunctions t_openStatements t_registers = some out) : g_Mi l yX2_doStatement cX2_doStatement 7 (some .boolean) r_X2_doStatement tA dC dI cI cZ cJ [.ref a_t, .int x1, .int x2, .int x3] (w_X2_doStatement cI cZ cJ a_t a_tp a_tp_parameterCounts a_tp_fields a_tp_entries a_ty a_ty_outputValues a_ty_callCounts a_ty_latestValues a_ty_differing a_t_inputs a_t_openFunctions a_t_openStatements a_t_registers a_tp_lengths t_inputCount t_inputsRead t_openCount tp_functionCount tp_entryCount tp_parameterCounts tp_fields tp_entries ty_doneCount ty_outputCount ty_outputValues ty_callCounts ty_latestValues ty_differing t_inputs t_openFunctions t_openStatements t_registers) (w_X2_doStatement cI cZ cJ a_t a_tp a_tp_parameterCounts a_tp_fields a_tp_entries a_ty a_ty_outputValues a_ty_callCounts a_ty_latestValues a_ty_differing a_t_inputs a_t_openFunctions a_t_openStatements a_t_registers a_tp_lengths t_inputCount out.2.1 out.2.2.1 tp_functionCount tp_entryCount tp_parameterCounts tp_fields tp_entries ty_doneCount out.2.2.2.1 out.2.2.2.2.1 out.2.2.2.2.2.1 out.2.2.2.2.2.2.1 out.2.2.2.2.2.2.2.1 t_inputs out.2.2.2.2.2.2.2.2.1 out.2.2.2.2.2.2.2.2.2.1 out.2.2.2.2.2.2.2.2.2.2) out.1 := by
  unfold f_X2_doStatement at hf
  refine ge_i (by decide) (Nat.le_of_ble_eq_true rfl) (fun p e s m below meth c A H locs ls hC hW hl => ?_)
  have hC : g_C p s m meth c _ cX2_doStatement 7 (some .boolean) RX2 := hC
  have hx := hC.1
  have hb := hC.2.1
  have hown := hC.2.2.2.2.1
  have hts := hC.2.2.2.2.2.1
  have hl : lv_has ls 7 [(0, .ref a_t), (1, .int x1), (2, .int x2), (3, .int x3)] := hl
  refine lv_aload_n hx hb dX2_doStatement_0 rfl (lv_at hl 0 rfl) ?_
  refine gs_get hC hW in_X2 0 0 rfl rfl (by decide) fl_X2_9 rfl dX2_doStatement_1 ?_
  refine lv_iload_n hx hb dX2_doStatement_4 rfl (lv_at hl 1 rfl) ?_
  refine lv_iload_n hx hb dX2_doStatement_5 rfl (lv_at hl 2 rfl) ?_
  refine lv_iconst (v := 0) hx hb dX2_doStatement_6 (by decide) ?_
  obtain ⟨o1, h1, hf⟩ := g_bnd hf
  refine gs_callVi (ws' := w_X2_doStatement cI cZ cJ a_t a_tp a_tp_parameterCounts a_tp_fields a_tp_entries a_ty a_ty_outputValues a_ty_callCounts a_ty_latestValues a_ty_differing a_t_inputs a_t_openFunctions a_t_openStatements a_t_registers a_tp_lengths t_inputCount t_inputsRead t_openCount tp_functionCount tp_entryCount tp_parameterCounts tp_fields tp_entries ty_doneCount ty_outputCount ty_outputValues ty_callCounts ty_latestValues ty_differing t_inputs t_openFunctions t_openStatements t_registers) hC hW (k_X4_fieldOf l tA dC dI cI cZ cJ a_tp a_tp_fields a_tp_parameterCounts a_tp_lengths a_tp_entries x1 x2 0 tp_functionCount tp_entryCount tp_fields _ h1) yk_X4_fieldOf lk_X2_68 iv_X4_fieldOf ⟨rfl, rfl⟩ ⟨Nat.le_of_ble_eq_true rfl, Nat.le_of_ble_eq_true rfl⟩ hl.1 1 rfl rfl [1, 3] [0, 2, 4, 5, 6, 7, 8, 9, 10, 11, 12, 13] [0, 12, 1, 13, 2, 3, 4, 5, 6, 7, 8, 9, 10, 11] rfl rfl rfl rfl (by decide) rfl rfl rfl rfl (Nat.le_of_ble_eq_true rfl) dX2_doStatement_7 ⟨Nat.zero_le _, Nat.zero_le _⟩ (fun H locs hW => ?_)
  refine lv_istore (lv' := [(4, .int o1), (0, .ref a_t), (1, .int x1), (2, .int x2), (3, .int x3)]) hx hb dX2_doStatement_10 hl (by decide) rfl (fun ls hl => ?_)
  refine lv_aload_n hx hb dX2_doStatement_12 rfl (lv_at hl 1 rfl) ?_
  refine lv_iload_n hx hb dX2_doStatement_13 rfl (lv_at hl 4 rfl) ?_
  refine lv_aload_n hx hb dX2_doStatement_14 rfl (lv_at hl 1 rfl) ?_
  refine gs_get hC hW in_X2 0 0 rfl rfl (by decide) fl_X2_9 rfl dX2_doStatement_15 ?_
  refine lv_iload_n hx hb dX2_doStatement_18 rfl (lv_at hl 2 rfl) ?_
  refine lv_iload_n hx hb dX2_doStatement_19 rfl (lv_at hl 3 rfl) ?_
  refine lv_iconst (v := 3) hx hb dX2_doStatement_20 (by decide) ?_
  obtain ⟨o2, h2, hf⟩ := g_bnd hf
  refine gs_callVi (ws' := w_X2_doStatement cI cZ cJ a_t a_tp a_tp_parameterCounts a_tp_fields a_tp_entries a_ty a_ty_outputValues a_ty_callCounts a_ty_latestValues a_ty_differing a_t_inputs a_t_openFunctions a_t_openStatements a_t_registers a_tp_lengths t_inputCount t_inputsRead t_openCount tp_functionCount tp_entryCount tp_parameterCounts tp_fields tp_entries ty_doneCount ty_outputCount ty_outputValues ty_callCounts ty_latestValues ty_differing t_inputs t_openFunctions t_openStatements t_registers) hC hW (k_X4_fieldOf l tA dC dI cI cZ cJ a_tp a_tp_fields a_tp_parameterCounts a_tp_lengths a_tp_entries x1 x2 3 tp_functionCount tp_entryCount tp_fields _ h2) yk_X4_fieldOf lk_X2_68 iv_X4_fieldOf ⟨rfl, rfl⟩ ⟨Nat.le_of_ble_eq_true rfl, Nat.le_of_ble_eq_true rfl⟩ hl.1 1 rfl rfl [1, 3] [0, 2, 4, 5, 6, 7, 8, 9, 10, 11, 12, 13] [0, 12, 1, 13, 2, 3, 4, 5, 6, 7, 8, 9, 10, 11] rfl rfl rfl rfl (by decide) rfl rfl rfl rfl (Nat.le_of_ble_eq_true rfl) dX2_doStatement_21 ⟨Nat.zero_le _, Nat.zero_le _⟩ (fun H locs hW => ?_)
  obtain ⟨o3, h3, hf⟩ := g_bnd hf
  refine gs_callVi (ws' := w_X2_doStatement cI cZ cJ a_t a_tp a_tp_parameterCounts a_tp_fields a_tp_entries a_ty a_ty_outputValues a_ty_callCounts a_ty_latestValues a_ty_differing a_t_inputs a_t_openFunctions a_t_openStatements a_t_registers a_tp_lengths t_inputCount t_inputsRead t_openCount tp_functionCount tp_entryCount tp_parameterCounts tp_fields tp_entries ty_doneCount ty_outputCount ty_outputValues ty_callCounts ty_latestValues ty_differing t_inputs t_openFunctions t_openStatements t_registers) hC hW (k_X2_valueOf l tA dC dI cI cZ cJ a_t a_t_registers a_tp a_ty a_t_inputs a_t_openFunctions a_t_openStatements x3 o2 t_inputCount t_inputsRead t_openCount t_registers _ h3) yk_X2_valueOf lk_X2_72 iv_X2_valueOf ⟨rfl, rfl⟩ ⟨Nat.le_of_ble_eq_true rfl, Nat.le_of_ble_eq_true rfl⟩ hl.1 0 rfl rfl [0, 13] [1, 2, 3, 4, 5, 6, 7, 8, 9, 10, 11, 12] [12, 0, 1, 2, 3, 4, 5, 6, 7, 8, 9, 10, 11, 13] rfl rfl rfl rfl (by decide) rfl rfl rfl rfl (Nat.le_of_ble_eq_true rfl) dX2_doStatement_24 ⟨Nat.zero_le _, Nat.zero_le _⟩ (fun H locs hW => ?_)
  refine lv_istore (lv' := [(5, .int o3), (4, .int o1), (0, .ref a_t), (1, .int x1), (2, .int x2), (3, .int x3)]) hx hb dX2_doStatement_27 hl (by decide) rfl (fun ls hl => ?_)
  refine lv_iload hx hb dX2_doStatement_29 (lv_at hl 1 rfl) ?_
  by_cases c4 : o1 = 5
  · replace hf := (if_pos c4).symm.trans hf
    refine lv_tableIn (off := 45) (tgt := 76) hx hb dX2_doStatement_31 (by rw [c4]; decide) (by rw [c4]; decide) (by rw [c4]; decide) (by decide) ?_
    refine lv_aload_n hx hb dX2_doStatement_76 rfl (lv_at hl 2 rfl) ?_
    refine lv_iload_n hx hb dX2_doStatement_77 rfl (lv_at hl 3 rfl) ?_
    refine lv_iload_n hx hb dX2_doStatement_78 rfl (lv_at hl 4 rfl) ?_
    refine lv_iload_n hx hb dX2_doStatement_79 rfl (lv_at hl 5 rfl) ?_
    refine lv_aload_n hx hb dX2_doStatement_80 rfl (lv_at hl 2 rfl) ?_
    obtain ⟨o5, h5, hf⟩ := g_bnd hf
    refine gs_callVi (ws' := w_X2_doStatement cI cZ cJ a_t a_tp a_tp_parameterCounts a_tp_fields a_tp_entries a_ty a_ty_outputValues a_ty_callCounts a_ty_latestValues a_ty_differing a_t_inputs a_t_openFunctions a_t_openStatements a_t_registers a_tp_lengths t_inputCount o5.2 t_openCount tp_functionCount tp_entryCount tp_parameterCounts tp_fields tp_entries ty_doneCount ty_outputCount ty_outputValues ty_callCounts ty_latestValues ty_differing t_inputs t_openFunctions t_openStatements t_registers) hC hW (k_X2_nextInput l tA dC dI cI cZ cJ a_t a_t_inputs a_tp a_ty a_t_openFunctions a_t_openStatements a_t_registers t_inputCount t_inputsRead t_openCount t_inputs _ h5) yk_X2_nextInput lk_X2_76 iv_X2_nextInput ⟨rfl, rfl⟩ ⟨Nat.le_of_ble_eq_true rfl, Nat.le_of_ble_eq_true rfl⟩ hl.1 0 rfl rfl [0, 10] [1, 2, 3, 4, 5, 6, 7, 8, 9, 11, 12, 13] [12, 0, 1, 2, 3, 4, 5, 6, 7, 8, 13, 9, 10, 11] rfl rfl rfl rfl (by decide) rfl rfl rfl rfl (Nat.le_of_ble_eq_true rfl) dX2_doStatement_81 ⟨Nat.zero_le _, Nat.zero_le _⟩ (fun H locs hW => ?_)
    obtain ⟨o6, h6, hf⟩ := g_bnd hf
    refine gs_callVi (ws' := w_X2_doStatement cI cZ cJ a_t a_tp a_tp_parameterCounts a_tp_fields a_tp_entries a_ty a_ty_outputValues a_ty_callCounts a_ty_latestValues a_ty_differing a_t_inputs a_t_openFunctions a_t_openStatements a_t_registers a_tp_lengths t_inputCount o5.2 t_openCount tp_functionCount tp_entryCount tp_parameterCounts tp_fields tp_entries ty_doneCount ty_outputCount ty_outputValues ty_callCounts ty_latestValues ty_differing t_inputs t_openFunctions o6.2.1 o6.2.2) hC hW (k_X2_finish l tA dC dI cI cZ cJ a_t a_tp a_tp_fields a_t_openStatements a_t_registers a_ty a_t_inputs a_t_openFunctions a_tp_parameterCounts a_tp_lengths a_tp_entries x1 x2 x3 o5.1 t_inputCount o5.2 t_openCount tp_functionCount tp_entryCount tp_fields t_openStatements t_registers _ h6) yk_X2_finish lk_X2_80 iv_X2_finish ⟨rfl, rfl⟩ ⟨Nat.le_of_ble_eq_true rfl, Nat.le_of_ble_eq_true rfl⟩ hl.1 0 rfl rfl [0, 1, 3, 12, 13] [2, 4, 5, 6, 7, 8, 9, 10, 11] [9, 10, 0, 11, 1, 2, 3, 4, 5, 6, 7, 8, 12, 13] rfl rfl rfl rfl (by decide) rfl rfl rfl rfl (Nat.le_of_ble_eq_true rfl) dX2_doStatement_84 ⟨Nat.zero_le _, Nat.zero_le _⟩ (fun H locs hW => ?_)
    obtain ⟨v7, h7, hf⟩ := g_bnd hf
    obtain ⟨rfl, hn, -⟩ := g_zr_ok h7
    obtain rfl := Option.some.inj hf
    exact gs_rz hC hW rfl hn dX2_doStatement_87
  · replace hf := (if_neg c4).symm.trans hf
    by_cases c8 : o1 = 6
    · replace hf := (if_pos c8).symm.trans hf
      refine lv_tableIn (off := 57) (tgt := 88) hx hb dX2_doStatement_31 (by rw [c8]; decide) (by rw [c8]; decide) (by rw [c8]; decide) (by decide) ?_
      refine lv_aload_n hx hb dX2_doStatement_88 rfl (lv_at hl 2 rfl) ?_
      refine gs_get hC hW in_X2 0 6 rfl rfl (by decide) fl_X2_33 rfl dX2_doStatement_89 ?_
      refine lv_iload_n hx hb dX2_doStatement_92 rfl (lv_at hl 5 rfl) ?_
      refine lv_iload_n hx hb dX2_doStatement_93 rfl (lv_at hl 4 rfl) ?_
      refine lv_iconst (v := 1) hx hb dX2_doStatement_94 (by decide) ?_
      refine lv_iadd hx hb dX2_doStatement_95 ?_
      obtain ⟨s9, h9, hf⟩ := g_bnd hf
      refine gs_iast (ws' := w_X2_doStatement cI cZ cJ a_t a_tp a_tp_parameterCounts a_tp_fields a_tp_entries a_ty a_ty_outputValues a_ty_callCounts a_ty_latestValues a_ty_differing a_t_inputs a_t_openFunctions a_t_openStatements a_t_registers a_tp_lengths t_inputCount t_inputsRead t_openCount tp_functionCount tp_entryCount tp_parameterCounts tp_fields tp_entries ty_doneCount ty_outputCount ty_outputValues ty_callCounts ty_latestValues ty_differing t_inputs t_openFunctions s9 t_registers) hC hW 12 h9 rfl rfl dX2_doStatement_96 (fun H locs hW => ?_)
      refine lv_aload_n hx hb dX2_doStatement_97 rfl (lv_at hl 2 rfl) ?_
      refine gs_get hC hW in_X2 0 1 rfl rfl (by decide) fl_X2_15 rfl dX2_doStatement_98 ?_
      refine lv_iload hx hb dX2_doStatement_101 (lv_at hl 0 rfl) ?_
      obtain ⟨o10, h10, hf⟩ := g_bnd hf
      refine gs_callVi (ws' := w_X2_doStatement cI cZ cJ a_t a_tp a_tp_parameterCounts a_tp_fields a_tp_entries a_ty a_ty_outputValues a_ty_callCounts a_ty_latestValues a_ty_differing a_t_inputs a_t_openFunctions a_t_openStatements a_t_registers a_tp_lengths t_inputCount t_inputsRead t_openCount tp_functionCount tp_entryCount tp_parameterCounts tp_fields tp_entries ty_doneCount o10.2.1 o10.2.2 ty_callCounts ty_latestValues ty_differing t_inputs t_openFunctions s9 t_registers) hC hW (k_X6_addOutput l tA dC dI cI cZ cJ a_ty a_ty_outputValues a_ty_callCounts a_ty_latestValues a_ty_differing o3 ty_doneCount ty_outputCount ty_outputValues _ h10) yk_X6_addOutput lk_X2_84 iv_X6_addOutput ⟨rfl, rfl⟩ ⟨Nat.le_of_ble_eq_true rfl, Nat.le_of_ble_eq_true rfl⟩ hl.1 5 rfl rfl [5, 6] [0, 1, 2, 3, 4, 7, 8, 9, 10, 11, 12, 13] [0, 1, 2, 3, 4, 12, 13, 5, 6, 7, 8, 9, 10, 11] rfl rfl rfl rfl (by decide) rfl rfl rfl rfl (Nat.le_of_ble_eq_true rfl) dX2_doStatement_103 ⟨Nat.zero_le _, Nat.zero_le _⟩ (fun H locs hW => ?_)
      obtain ⟨v11, h11, hf⟩ := g_bnd hf
      obtain ⟨rfl, hn, -⟩ := g_zr_ok h11
      obtain rfl := Option.some.inj hf
      exact gs_rz hC hW rfl hn dX2_doStatement_106
    · replace hf := (if_neg c8).symm.trans hf
      by_cases c12 : o1 = 7
      · replace hf := (if_pos c12).symm.trans hf
        refine lv_tableIn (off := 76) (tgt := 107) hx hb dX2_doStatement_31 (by rw [c12]; decide) (by rw [c12]; decide) (by rw [c12]; decide) (by decide) ?_
        refine lv_aload_n hx hb dX2_doStatement_107 rfl (lv_at hl 2 rfl) ?_
        refine gs_get hC hW in_X2 0 6 rfl rfl (by decide) fl_X2_33 rfl dX2_doStatement_108 ?_
        refine lv_iload_n hx hb dX2_doStatement_111 rfl (lv_at hl 5 rfl) ?_
        refine lv_iload hx hb dX2_doStatement_112 (lv_at hl 0 rfl) ?_
        refine lv_if_eq (tgt := 130) hx hb dX2_doStatement_114 (by decide) (fun c13 => ?_) (fun c13 => ?_)
        · replace hf := (if_pos c13).symm.trans hf
          refine lv_iload_n hx hb dX2_doStatement_130 rfl (lv_at hl 4 rfl) ?_
          refine lv_iconst (v := 1) hx hb dX2_doStatement_131 (by decide) ?_
          refine lv_iadd hx hb dX2_doStatement_132 ?_
          obtain ⟨s14, h14, hf⟩ := g_bnd hf
          refine gs_iast (ws' := w_X2_doStatement cI cZ cJ a_t a_tp a_tp_parameterCounts a_tp_fields a_tp_entries a_ty a_ty_outputValues a_ty_callCounts a_ty_latestValues a_ty_differing a_t_inputs a_t_openFunctions a_t_openStatements a_t_registers a_tp_lengths t_inputCount t_inputsRead t_openCount tp_functionCount tp_entryCount tp_parameterCounts tp_fields tp_entries ty_doneCount ty_outputCount ty_outputValues ty_callCounts ty_latestValues ty_differing t_inputs t_openFunctions s14 t_registers) hC hW 12 h14 rfl rfl dX2_doStatement_133 (fun H locs hW => ?_)
          refine lv_iconst (v := 1) hx hb dX2_doStatement_134 (by decide) ?_
          obtain rfl := Option.some.inj hf
          exact gs_rz hC hW rfl g_n1 dX2_doStatement_135
        · replace hf := (if_neg c13).symm.trans hf
          refine lv_aload_n hx hb dX2_doStatement_117 rfl (lv_at hl 2 rfl) ?_
          refine gs_get hC hW in_X2 0 0 rfl rfl (by decide) fl_X2_9 rfl dX2_doStatement_118 ?_
          refine lv_iload_n hx hb dX2_doStatement_121 rfl (lv_at hl 3 rfl) ?_
          refine lv_iload_n hx hb dX2_doStatement_122 rfl (lv_at hl 4 rfl) ?_
          refine lv_iconst (v := 2) hx hb dX2_doStatement_123 (by decide) ?_
          obtain ⟨o15, h15, hf⟩ := g_bnd hf
          refine gs_callVi (ws' := w_X2_doStatement cI cZ cJ a_t a_tp a_tp_parameterCounts a_tp_fields a_tp_entries a_ty a_ty_outputValues a_ty_callCounts a_ty_latestValues a_ty_differing a_t_inputs a_t_openFunctions a_t_openStatements a_t_registers a_tp_lengths t_inputCount t_inputsRead t_openCount tp_functionCount tp_entryCount tp_parameterCounts tp_fields tp_entries ty_doneCount ty_outputCount ty_outputValues ty_callCounts ty_latestValues ty_differing t_inputs t_openFunctions t_openStatements t_registers) hC hW (k_X4_fieldOf l tA dC dI cI cZ cJ a_tp a_tp_fields a_tp_parameterCounts a_tp_lengths a_tp_entries x1 x2 2 tp_functionCount tp_entryCount tp_fields _ h15) yk_X4_fieldOf lk_X2_68 iv_X4_fieldOf ⟨rfl, rfl⟩ ⟨Nat.le_of_ble_eq_true rfl, Nat.le_of_ble_eq_true rfl⟩ hl.1 1 rfl rfl [1, 3] [0, 2, 4, 5, 6, 7, 8, 9, 10, 11, 12, 13] [0, 12, 1, 13, 2, 3, 4, 5, 6, 7, 8, 9, 10, 11] rfl rfl rfl rfl (by decide) rfl rfl rfl rfl (Nat.le_of_ble_eq_true rfl) dX2_doStatement_124 ⟨Nat.zero_le _, Nat.zero_le _⟩ (fun H locs hW => ?_)
          refine lv_goto (tgt := 133) hx hb dX2_doStatement_127 (by decide) ?_
          obtain ⟨s16, h16, hf⟩ := g_bnd hf
          refine gs_iast (ws' := w_X2_doStatement cI cZ cJ a_t a_tp a_tp_parameterCounts a_tp_fields a_tp_entries a_ty a_ty_outputValues a_ty_callCounts a_ty_latestValues a_ty_differing a_t_inputs a_t_openFunctions a_t_openStatements a_t_registers a_tp_lengths t_inputCount t_inputsRead t_openCount tp_functionCount tp_entryCount tp_parameterCounts tp_fields tp_entries ty_doneCount ty_outputCount ty_outputValues ty_callCounts ty_latestValues ty_differing t_inputs t_openFunctions s16 t_registers) hC hW 12 h16 rfl rfl dX2_doStatement_133 (fun H locs hW => ?_)
          refine lv_iconst (v := 1) hx hb dX2_doStatement_134 (by decide) ?_
          obtain rfl := Option.some.inj hf
          exact gs_rz hC hW rfl g_n1 dX2_doStatement_135
      · replace hf := (if_neg c12).symm.trans hf
        by_cases c17 : o1 = 8
        · replace hf := (if_pos c17).symm.trans hf
          refine lv_tableIn (off := 105) (tgt := 136) hx hb dX2_doStatement_31 (by rw [c17]; decide) (by rw [c17]; decide) (by rw [c17]; decide) (by decide) ?_
          refine lv_aload_n hx hb dX2_doStatement_136 rfl (lv_at hl 2 rfl) ?_
          refine gs_get hC hW in_X2 0 6 rfl rfl (by decide) fl_X2_33 rfl dX2_doStatement_137 ?_
          refine lv_iload_n hx hb dX2_doStatement_140 rfl (lv_at hl 5 rfl) ?_
          refine lv_aload_n hx hb dX2_doStatement_141 rfl (lv_at hl 2 rfl) ?_
          refine gs_get hC hW in_X2 0 0 rfl rfl (by decide) fl_X2_9 rfl dX2_doStatement_142 ?_
          refine lv_iload_n hx hb dX2_doStatement_145 rfl (lv_at hl 3 rfl) ?_
          refine lv_iload_n hx hb dX2_doStatement_146 rfl (lv_at hl 4 rfl) ?_
          refine lv_iconst (v := 2) hx hb dX2_doStatement_147 (by decide) ?_
          obtain ⟨o18, h18, hf⟩ := g_bnd hf
          refine gs_callVi (ws' := w_X2_doStatement cI cZ cJ a_t a_tp a_tp_parameterCounts a_tp_fields a_tp_entries a_ty a_ty_outputValues a_ty_callCounts a_ty_latestValues a_ty_differing a_t_inputs a_t_openFunctions a_t_openStatements a_t_registers a_tp_lengths t_inputCount t_inputsRead t_openCount tp_functionCount tp_entryCount tp_parameterCounts tp_fields tp_entries ty_doneCount ty_outputCount ty_outputValues ty_callCounts ty_latestValues ty_differing t_inputs t_openFunctions t_openStatements t_registers) hC hW (k_X4_fieldOf l tA dC dI cI cZ cJ a_tp a_tp_fields a_tp_parameterCounts a_tp_lengths a_tp_entries x1 x2 2 tp_functionCount tp_entryCount tp_fields _ h18) yk_X4_fieldOf lk_X2_68 iv_X4_fieldOf ⟨rfl, rfl⟩ ⟨Nat.le_of_ble_eq_true rfl, Nat.le_of_ble_eq_true rfl⟩ hl.1 1 rfl rfl [1, 3] [0, 2, 4, 5, 6, 7, 8, 9, 10, 11, 12, 13] [0, 12, 1, 13, 2, 3, 4, 5, 6, 7, 8, 9, 10, 11] rfl rfl rfl rfl (by decide) rfl rfl rfl rfl (Nat.le_of_ble_eq_true rfl) dX2_doStatement_148 ⟨Nat.zero_le _, Nat.zero_le _⟩ (fun H locs hW => ?_)
          obtain ⟨s19, h19, hf⟩ := g_bnd hf
          refine gs_iast (ws' := w_X2_doStatement cI cZ cJ a_t a_tp a_tp_parameterCounts a_tp_fields a_tp_entries a_ty a_ty_outputValues a_ty_callCounts a_ty_latestValues a_ty_differing a_t_inputs a_t_openFunctions a_t_openStatements a_t_registers a_tp_lengths t_inputCount t_inputsRead t_openCount tp_functionCount tp_entryCount tp_parameterCounts tp_fields tp_entries ty_doneCount ty_outputCount ty_outputValues ty_callCounts ty_latestValues ty_differing t_inputs t_openFunctions s19 t_registers) hC hW 12 h19 rfl rfl dX2_doStatement_151 (fun H locs hW => ?_)
          refine lv_iconst (v := 1) hx hb dX2_doStatement_152 (by decide) ?_
          obtain rfl := Option.some.inj hf
          exact gs_rz hC hW rfl g_n1 dX2_doStatement_153
        · replace hf := (if_neg c17).symm.trans hf
          by_cases c20 : o1 = 9
          · replace hf := (if_pos c20).symm.trans hf
            refine lv_tableIn (off := 123) (tgt := 154) hx hb dX2_doStatement_31 (by rw [c20]; decide) (by rw [c20]; decide) (by rw [c20]; decide) (by decide) ?_
            refine lv_aload_n hx hb dX2_doStatement_154 rfl (lv_at hl 2 rfl) ?_
            refine lv_iload hx hb dX2_doStatement_155 (lv_at hl 0 rfl) ?_
            obtain ⟨o21, h21, hf⟩ := g_bnd hf
            refine gs_callVv (ws' := w_X2_doStatement cI cZ cJ a_t a_tp a_tp_parameterCounts a_tp_fields a_tp_entries a_ty a_ty_outputValues a_ty_callCounts a_ty_latestValues a_ty_differing a_t_inputs a_t_openFunctions a_t_openStatements a_t_registers a_tp_lengths t_inputCount t_inputsRead o21.1 tp_functionCount tp_entryCount tp_parameterCounts tp_fields tp_entries ty_doneCount ty_outputCount ty_outputValues ty_callCounts ty_latestValues ty_differing t_inputs t_openFunctions o21.2.1 o21.2.2) hC hW (k_X2_leaveCall l tA dC dI cI cZ cJ a_t a_tp a_tp_fields a_t_openFunctions a_t_openStatements a_t_registers a_ty a_t_inputs a_tp_parameterCounts a_tp_lengths a_tp_entries o3 t_inputCount t_inputsRead t_openCount tp_functionCount tp_entryCount tp_fields t_openFunctions t_openStatements t_registers _ h21) yk_X2_leaveCall lk_X2_50 iv_X2_leaveCall ⟨rfl, rfl⟩ ⟨Nat.le_of_ble_eq_true rfl, Nat.le_of_ble_eq_true rfl⟩ hl.1 0 rfl rfl [0, 1, 3, 11, 12, 13] [2, 4, 5, 6, 7, 8, 9, 10] [8, 9, 0, 10, 1, 2, 3, 4, 5, 6, 7, 11, 12, 13] rfl rfl rfl rfl (by decide) rfl rfl rfl rfl (Nat.le_of_ble_eq_true rfl) dX2_doStatement_157 ⟨Nat.zero_le _, Nat.zero_le _⟩ (fun H locs hW => ?_)
            refine lv_iconst (v := 1) hx hb dX2_doStatement_160 (by decide) ?_
            obtain rfl := Option.some.inj hf
            exact gs_rz hC hW rfl g_n1 dX2_doStatement_161
          · replace hf := (if_neg c20).symm.trans hf
            by_cases c22 : o1 = 10
            · replace hf := (if_pos c22).symm.trans hf
              refine lv_tableIn (off := 131) (tgt := 162) hx hb dX2_doStatement_31 (by rw [c22]; decide) (by rw [c22]; decide) (by rw [c22]; decide) (by decide) ?_
              refine lv_aload_n hx hb dX2_doStatement_162 rfl (lv_at hl 2 rfl) ?_
              refine lv_iload_n hx hb dX2_doStatement_163 rfl (lv_at hl 3 rfl) ?_
              refine lv_iload_n hx hb dX2_doStatement_164 rfl (lv_at hl 4 rfl) ?_
              refine lv_iload_n hx hb dX2_doStatement_165 rfl (lv_at hl 5 rfl) ?_
              refine lv_aload_n hx hb dX2_doStatement_166 rfl (lv_at hl 2 rfl) ?_
              refine gs_get hC hW in_X2 0 0 rfl rfl (by decide) fl_X2_9 rfl dX2_doStatement_167 ?_
              refine lv_iload_n hx hb dX2_doStatement_170 rfl (lv_at hl 3 rfl) ?_
              refine lv_iload_n hx hb dX2_doStatement_171 rfl (lv_at hl 4 rfl) ?_
              refine lv_iconst (v := 2) hx hb dX2_doStatement_172 (by decide) ?_
              obtain ⟨o23, h23, hf⟩ := g_bnd hf
              refine gs_callVi (ws' := w_X2_doStatement cI cZ cJ a_t a_tp a_tp_parameterCounts a_tp_fields a_tp_entries a_ty a_ty_outputValues a_ty_callCounts a_ty_latestValues a_ty_differing a_t_inputs a_t_openFunctions a_t_openStatements a_t_registers a_tp_lengths t_inputCount t_inputsRead t_openCount tp_functionCount tp_entryCount tp_parameterCounts tp_fields tp_entries ty_doneCount ty_outputCount ty_outputValues ty_callCounts ty_latestValues ty_differing t_inputs t_openFunctions t_openStatements t_registers) hC hW (k_X4_fieldOf l tA dC dI cI cZ cJ a_tp a_tp_fields a_tp_parameterCounts a_tp_lengths a_tp_entries x1 x2 2 tp_functionCount tp_entryCount tp_fields _ h23) yk_X4_fieldOf lk_X2_68 iv_X4_fieldOf ⟨rfl, rfl⟩ ⟨Nat.le_of_ble_eq_true rfl, Nat.le_of_ble_eq_true rfl⟩ hl.1 1 rfl rfl [1, 3] [0, 2, 4, 5, 6, 7, 8, 9, 10, 11, 12, 13] [0, 12, 1, 13, 2, 3, 4, 5, 6, 7, 8, 9, 10, 11] rfl rfl rfl rfl (by decide) rfl rfl rfl rfl (Nat.le_of_ble_eq_true rfl) dX2_doStatement_173 ⟨Nat.zero_le _, Nat.zero_le _⟩ (fun H locs hW => ?_)
              obtain ⟨o24, h24, hf⟩ := g_bnd hf
              refine gs_callVi (ws' := w_X2_doStatement cI cZ cJ a_t a_tp a_tp_parameterCounts a_tp_fields a_tp_entries a_ty a_ty_outputValues a_ty_callCounts a_ty_latestValues a_ty_differing a_t_inputs a_t_openFunctions a_t_openStatements a_t_registers a_tp_lengths t_inputCount t_inputsRead o24.2.1 tp_functionCount tp_entryCount tp_parameterCounts tp_fields tp_entries ty_doneCount ty_outputCount ty_outputValues o24.2.2.1 o24.2.2.2.1 o24.2.2.2.2.1 t_inputs o24.2.2.2.2.2.1 o24.2.2.2.2.2.2.1 o24.2.2.2.2.2.2.2) hC hW (k_X2_enterCall l tA dC dI cI cZ cJ a_t a_tp a_tp_parameterCounts a_tp_fields a_ty a_ty_callCounts a_ty_latestValues a_ty_differing a_t_openFunctions a_t_openStatements a_t_registers a_t_inputs a_tp_lengths a_tp_entries a_ty_outputValues N x1 x2 x3 o23 t_inputCount t_inputsRead t_openCount tp_functionCount tp_entryCount tp_parameterCounts tp_fields ty_doneCount ty_outputCount ty_callCounts ty_latestValues ty_differing t_openFunctions t_openStatements t_registers _ h24) yk_X2_enterCall lk_X2_88 iv_X2_enterCall ⟨rfl, rfl⟩ ⟨Nat.le_of_ble_eq_true rfl, Nat.le_of_ble_eq_true rfl⟩ hl.1 0 rfl rfl [0, 1, 2, 3, 5, 7, 8, 9, 11, 12, 13] [4, 6, 10] [3, 4, 5, 6, 0, 7, 1, 8, 9, 10, 2, 11, 12, 13] rfl rfl rfl rfl (by decide) rfl rfl rfl rfl (Nat.le_of_ble_eq_true rfl) dX2_doStatement_176 ⟨Nat.zero_le _, Nat.zero_le _⟩ (fun H locs hW => ?_)
              obtain ⟨v25, h25, hf⟩ := g_bnd hf
              obtain ⟨rfl, hn, -⟩ := g_zr_ok h25
              obtain rfl := Option.some.inj hf
              exact gs_rz hC hW rfl hn dX2_doStatement_179
            · replace hf := (if_neg c22).symm.trans hf
              by_cases c26 : o1 = 11
              · replace hf := (if_pos c26).symm.trans hf
                refine lv_tableIn (off := 149) (tgt := 180) hx hb dX2_doStatement_31 (by rw [c26]; decide) (by rw [c26]; decide) (by rw [c26]; decide) (by decide) ?_
                refine lv_aload_n hx hb dX2_doStatement_180 rfl (lv_at hl 2 rfl) ?_
                refine lv_iload_n hx hb dX2_doStatement_181 rfl (lv_at hl 3 rfl) ?_
                refine lv_iload_n hx hb dX2_doStatement_182 rfl (lv_at hl 4 rfl) ?_
                refine lv_iload_n hx hb dX2_doStatement_183 rfl (lv_at hl 5 rfl) ?_
                obtain ⟨o27, h27, hf⟩ := g_bnd hf
                refine gs_callVi (ws' := w_X2_doStatement cI cZ cJ a_t a_tp a_tp_parameterCounts a_tp_fields a_tp_entries a_ty a_ty_outputValues a_ty_callCounts a_ty_latestValues a_ty_differing a_t_inputs a_t_openFunctions a_t_openStatements a_t_registers a_tp_lengths t_inputCount t_inputsRead o27.2.1 tp_functionCount tp_entryCount tp_parameterCounts tp_fields tp_entries ty_doneCount ty_outputCount ty_outputValues o27.2.2.1 o27.2.2.2.1 o27.2.2.2.2.1 t_inputs o27.2.2.2.2.2.1 o27.2.2.2.2.2.2.1 o27.2.2.2.2.2.2.2) hC hW (k_X2_doTableCall l tA dC dI cI cZ cJ a_t a_tp a_tp_parameterCounts a_tp_fields a_tp_entries a_ty a_ty_callCounts a_ty_latestValues a_ty_differing a_t_openFunctions a_t_openStatements a_t_registers a_t_inputs a_tp_lengths a_ty_outputValues N x1 x2 x3 t_inputCount t_inputsRead t_openCount tp_functionCount tp_entryCount tp_parameterCounts tp_fields tp_entries ty_doneCount ty_outputCount ty_callCounts ty_latestValues ty_differing t_openFunctions t_openStatements t_registers _ h27) yk_X2_doTableCall lk_X2_91 iv_X2_doTableCall ⟨rfl, rfl⟩ ⟨Nat.le_of_ble_eq_true rfl, Nat.le_of_ble_eq_true rfl⟩ hl.1 0 rfl rfl [0, 1, 2, 3, 4, 5, 7, 8, 9, 11, 12, 13] [6, 10] [2, 3, 4, 5, 6, 7, 0, 8, 9, 10, 1, 11, 12, 13] rfl rfl rfl rfl (by decide) rfl rfl rfl rfl (Nat.le_of_ble_eq_true rfl) dX2_doStatement_184 ⟨Nat.zero_le _, Nat.zero_le _⟩ (fun H locs hW => ?_)
                obtain ⟨v28, h28, hf⟩ := g_bnd hf
                obtain ⟨rfl, hn, -⟩ := g_zr_ok h28
                obtain rfl := Option.some.inj hf
                exact gs_rz hC hW rfl hn dX2_doStatement_187
              · replace hf := (if_neg c26).symm.trans hf
                by_cases c29 : o1 = 12
                · replace hf := (if_pos c29).symm.trans hf
                  refine lv_tableIn (off := 157) (tgt := 188) hx hb dX2_doStatement_31 (by rw [c29]; decide) (by rw [c29]; decide) (by rw [c29]; decide) (by decide) ?_
                  refine lv_aload_n hx hb dX2_doStatement_188 rfl (lv_at hl 2 rfl) ?_
                  refine gs_get hC hW in_X2 0 6 rfl rfl (by decide) fl_X2_33 rfl dX2_doStatement_189 ?_
                  refine lv_iload_n hx hb dX2_doStatement_192 rfl (lv_at hl 5 rfl) ?_
                  refine lv_iload_n hx hb dX2_doStatement_193 rfl (lv_at hl 4 rfl) ?_
                  refine lv_iconst (v := 1) hx hb dX2_doStatement_194 (by decide) ?_
                  refine lv_iadd hx hb dX2_doStatement_195 ?_
                  obtain ⟨s30, h30, hf⟩ := g_bnd hf
                  refine gs_iast (ws' := w_X2_doStatement cI cZ cJ a_t a_tp a_tp_parameterCounts a_tp_fields a_tp_entries a_ty a_ty_outputValues a_ty_callCounts a_ty_latestValues a_ty_differing a_t_inputs a_t_openFunctions a_t_openStatements a_t_registers a_tp_lengths t_inputCount t_inputsRead t_openCount tp_functionCount tp_entryCount tp_parameterCounts tp_fields tp_entries ty_doneCount ty_outputCount ty_outputValues ty_callCounts ty_latestValues ty_differing t_inputs t_openFunctions s30 t_registers) hC hW 12 h30 rfl rfl dX2_doStatement_196 (fun H locs hW => ?_)
                  refine lv_iconst (v := 1) hx hb dX2_doStatement_197 (by decide) ?_
                  obtain rfl := Option.some.inj hf
                  exact gs_rz hC hW rfl g_n1 dX2_doStatement_198
                · replace hf := (if_neg c29).symm.trans hf
                  refine gs_tblD (n := 8) (tgt := 199) hx hb dX2_doStatement_31 (by decide) (by decide) (fun j hj h9 => ?_) ?_
                  · rcases (show j = 0 ∨ j = 1 ∨ j = 2 ∨ j = 3 ∨ j = 4 ∨ j = 5 ∨ j = 6 ∨ j = 7 by omega) with rfl | rfl | rfl | rfl | rfl | rfl | rfl | rfl
                    · exact absurd (g_ti (k := 5) h9 (by decide)) c4
                    · exact absurd (g_ti (k := 6) h9 (by decide)) c8
                    · exact absurd (g_ti (k := 7) h9 (by decide)) c12
                    · exact absurd (g_ti (k := 8) h9 (by decide)) c17
                    · exact absurd (g_ti (k := 9) h9 (by decide)) c20
                    · exact absurd (g_ti (k := 10) h9 (by decide)) c22
                    · exact absurd (g_ti (k := 11) h9 (by decide)) c26
                    · exact absurd (g_ti (k := 12) h9 (by decide)) c29
                  · refine lv_aload_n hx hb dX2_doStatement_199 rfl (lv_at hl 2 rfl) ?_
                    refine lv_iload_n hx hb dX2_doStatement_200 rfl (lv_at hl 5 rfl) ?_
                    refine lv_aload_n hx hb dX2_doStatement_201 rfl (lv_at hl 2 rfl) ?_
                    refine gs_get hC hW in_X2 0 0 rfl rfl (by decide) fl_X2_9 rfl dX2_doStatement_202 ?_
                    refine lv_iload_n hx hb dX2_doStatement_205 rfl (lv_at hl 3 rfl) ?_
                    refine lv_iload_n hx hb dX2_doStatement_206 rfl (lv_at hl 4 rfl) ?_
                    refine lv_iconst (v := 4) hx hb dX2_doStatement_207 (by decide) ?_
                    obtain ⟨o31, h31, hf⟩ := g_bnd hf
                    refine gs_callVi (ws' := w_X2_doStatement cI cZ cJ a_t a_tp a_tp_parameterCounts a_tp_fields a_tp_entries a_ty a_ty_outputValues a_ty_callCounts a_ty_latestValues a_ty_differing a_t_inputs a_t_openFunctions a_t_openStatements a_t_registers a_tp_lengths t_inputCount t_inputsRead t_openCount tp_functionCount tp_entryCount tp_parameterCounts tp_fields tp_entries ty_doneCount ty_outputCount ty_outputValues ty_callCounts ty_latestValues ty_differing t_inputs t_openFunctions t_openStatements t_registers) hC hW (k_X4_fieldOf l tA dC dI cI cZ cJ a_tp a_tp_fields a_tp_parameterCounts a_tp_lengths a_tp_entries x1 x2 4 tp_functionCount tp_entryCount tp_fields _ h31) yk_X4_fieldOf lk_X2_68 iv_X4_fieldOf ⟨rfl, rfl⟩ ⟨Nat.le_of_ble_eq_true rfl, Nat.le_of_ble_eq_true rfl⟩ hl.1 1 rfl rfl [1, 3] [0, 2, 4, 5, 6, 7, 8, 9, 10, 11, 12, 13] [0, 12, 1, 13, 2, 3, 4, 5, 6, 7, 8, 9, 10, 11] rfl rfl rfl rfl (by decide) rfl rfl rfl rfl (Nat.le_of_ble_eq_true rfl) dX2_doStatement_208 ⟨Nat.zero_le _, Nat.zero_le _⟩ (fun H locs hW => ?_)
                    obtain ⟨o32, h32, hf⟩ := g_bnd hf
                    refine gs_callVi (ws' := w_X2_doStatement cI cZ cJ a_t a_tp a_tp_parameterCounts a_tp_fields a_tp_entries a_ty a_ty_outputValues a_ty_callCounts a_ty_latestValues a_ty_differing a_t_inputs a_t_openFunctions a_t_openStatements a_t_registers a_tp_lengths t_inputCount t_inputsRead t_openCount tp_functionCount tp_entryCount tp_parameterCounts tp_fields tp_entries ty_doneCount ty_outputCount ty_outputValues ty_callCounts ty_latestValues ty_differing t_inputs t_openFunctions t_openStatements t_registers) hC hW (k_X2_valueOf l tA dC dI cI cZ cJ a_t a_t_registers a_tp a_ty a_t_inputs a_t_openFunctions a_t_openStatements x3 o31 t_inputCount t_inputsRead t_openCount t_registers _ h32) yk_X2_valueOf lk_X2_72 iv_X2_valueOf ⟨rfl, rfl⟩ ⟨Nat.le_of_ble_eq_true rfl, Nat.le_of_ble_eq_true rfl⟩ hl.1 0 rfl rfl [0, 13] [1, 2, 3, 4, 5, 6, 7, 8, 9, 10, 11, 12] [12, 0, 1, 2, 3, 4, 5, 6, 7, 8, 9, 10, 11, 13] rfl rfl rfl rfl (by decide) rfl rfl rfl rfl (Nat.le_of_ble_eq_true rfl) dX2_doStatement_211 ⟨Nat.zero_le _, Nat.zero_le _⟩ (fun H locs hW => ?_)
                    refine lv_istore (lv' := [(6, .int o32), (5, .int o3), (4, .int o1), (0, .ref a_t), (1, .int x1), (2, .int x2), (3, .int x3)]) hx hb dX2_doStatement_214 hl (by decide) rfl (fun ls hl => ?_)
                    refine lv_aload_n hx hb dX2_doStatement_216 rfl (lv_at hl 3 rfl) ?_
                    refine lv_iload_n hx hb dX2_doStatement_217 rfl (lv_at hl 4 rfl) ?_
                    refine lv_iload_n hx hb dX2_doStatement_218 rfl (lv_at hl 5 rfl) ?_
                    refine lv_iload_n hx hb dX2_doStatement_219 rfl (lv_at hl 6 rfl) ?_
                    refine lv_iload hx hb dX2_doStatement_220 (lv_at hl 2 rfl) ?_
                    refine lv_iload hx hb dX2_doStatement_222 (lv_at hl 1 rfl) ?_
                    refine lv_iload hx hb dX2_doStatement_224 (lv_at hl 0 rfl) ?_
                    obtain ⟨o33, h33, hf⟩ := g_bnd hf
                    refine gs_callSNi (ws' := w_X2_doStatement cI cZ cJ a_t a_tp a_tp_parameterCounts a_tp_fields a_tp_entries a_ty a_ty_outputValues a_ty_callCounts a_ty_latestValues a_ty_differing a_t_inputs a_t_openFunctions a_t_openStatements a_t_registers a_tp_lengths t_inputCount t_inputsRead t_openCount tp_functionCount tp_entryCount tp_parameterCounts tp_fields tp_entries ty_doneCount ty_outputCount ty_outputValues ty_callCounts ty_latestValues ty_differing t_inputs t_openFunctions t_openStatements t_registers) hC hW (k_X7_compute l tA dC dI cI cZ cJ o1 o3 o32 _ h33) yk_X7_compute ln_X2_94 is_X7_compute ⟨rfl, rfl⟩ ⟨Nat.le_of_ble_eq_true rfl, Nat.le_of_ble_eq_true rfl⟩ hl.1 [] [0, 1, 2, 3, 4, 5, 6, 7, 8, 9, 10, 11, 12, 13] [0, 1, 2, 3, 4, 5, 6, 7, 8, 9, 10, 11, 12, 13] rfl rfl rfl rfl (by decide) rfl rfl rfl rfl (Nat.le_of_ble_eq_true rfl) dX2_doStatement_226 ⟨Nat.zero_le _, Nat.zero_le _⟩ (fun H locs hW => ?_)
                    obtain ⟨o34, h34, hf⟩ := g_bnd hf
                    refine gs_callVi (ws' := w_X2_doStatement cI cZ cJ a_t a_tp a_tp_parameterCounts a_tp_fields a_tp_entries a_ty a_ty_outputValues a_ty_callCounts a_ty_latestValues a_ty_differing a_t_inputs a_t_openFunctions a_t_openStatements a_t_registers a_tp_lengths t_inputCount t_inputsRead t_openCount tp_functionCount tp_entryCount tp_parameterCounts tp_fields tp_entries ty_doneCount ty_outputCount ty_outputValues ty_callCounts ty_latestValues ty_differing t_inputs t_openFunctions o34.2.1 o34.2.2) hC hW (k_X2_finish l tA dC dI cI cZ cJ a_t a_tp a_tp_fields a_t_openStatements a_t_registers a_ty a_t_inputs a_t_openFunctions a_tp_parameterCounts a_tp_lengths a_tp_entries x1 x2 x3 o33 t_inputCount t_inputsRead t_openCount tp_functionCount tp_entryCount tp_fields t_openStatements t_registers _ h34) yk_X2_finish lk_X2_80 iv_X2_finish ⟨rfl, rfl⟩ ⟨Nat.le_of_ble_eq_true rfl, Nat.le_of_ble_eq_true rfl⟩ hl.1 0 rfl rfl [0, 1, 3, 12, 13] [2, 4, 5, 6, 7, 8, 9, 10, 11] [9, 10, 0, 11, 1, 2, 3, 4, 5, 6, 7, 8, 12, 13] rfl rfl rfl rfl (by decide) rfl rfl rfl rfl (Nat.le_of_ble_eq_true rfl) dX2_doStatement_229 ⟨Nat.zero_le _, Nat.zero_le _⟩ (fun H locs hW => ?_)
                    obtain ⟨v35, h35, hf⟩ := g_bnd hf
                    obtain ⟨rfl, hn, -⟩ := g_zr_ok h35
                    obtain rfl := Option.some.inj hf
                    exact gs_rz hC hW rfl hn dX2_doStatement_232

abbrev w_X2_execute (cI cZ cJ : ClassId) (a_t : Nat) (a_ty : Nat) (a_ty_outputValues : Nat) (a_ty_callCounts : Nat) (a_ty_latestValues : Nat) (a_ty_differing : Nat) (a_t_inputs : Nat) (a_t_openFunctions : Nat) (a_t_openStatements : Nat) (a_t_registers : Nat) (a_u : Nat) (a_u_parameterCounts : Nat) (a_u_lengths : Nat) (a_u_fields : Nat) (a_u_entries : Nat) (a_old : Nat) (t_inputCount : Int32) (t_inputsRead : Int32) (t_openCount : Int32) (ty_doneCount : Int32) (ty_outputCount : Int32) (ty_outputValues : Nat → Int32) (ty_callCounts : Nat → Int32) (ty_latestValues : Nat → Int32) (ty_differing : Nat → Int32) (t_inputs : Nat → Int32) (t_openFunctions : Nat → Int32) (t_openStatements : Nat → Int32) (t_registers : Nat → Int32) (u_functionCount : Int32) (u_entryCount : Int32) (u_parameterCounts : Nat → Int32) (u_lengths : Nat → Int32) (u_fields : Nat → Int32) (u_entries : Nat → Int32) : va_W := [(a_t, .inr (2, [.ref a_old, .ref a_ty, .ref a_t_inputs, .int t_inputCount, .int t_inputsRead, .ref a_t_openFunctions, .ref a_t_openStatements, .ref a_t_registers, .int t_openCount])), (a_ty, .inr (6, [.int ty_doneCount, .int ty_outputCount, .ref a_ty_outputValues, .ref a_ty_callCounts, .ref a_ty_latestValues, .ref a_ty_differing])), (a_ty_outputValues, .inl (cI, 40, .inl ty_outputValues)), (a_ty_callCounts, .inl (cI, 12, .inl ty_callCounts)), (a_ty_latestValues, .inl (cI, 36, .inl ty_latestValues)), (a_ty_differing, .inl (cZ, 36, .inl ty_differing)), (a_t_inputs, .inl (cI, 12, .inl t_inputs)), (a_t_openFunctions, .inl (cI, 11, .inl t_openFunctions)), (a_t_openStatements, .inl (cI, 11, .inl t_openStatements)), (a_t_registers, .inl (cI, 66, .inl t_registers)), (a_u, .inr (4, [.int u_functionCount, .int u_entryCount, .ref a_u_parameterCounts, .ref a_u_lengths, .ref a_u_fields, .ref a_u_entries])), (a_u_parameterCounts, .inl (cI, 12, .inl u_parameterCounts)), (a_u_lengths, .inl (cI, 12, .inl u_lengths)), (a_u_fields, .inl (cI, 1152, .inl u_fields)), (a_u_entries, .inl (cI, 4, .inl u_entries))]
abbrev r_X2_execute : Room := { frames := 5, cells := 0, slots := 0, locals := 120 }
def f_X2_execute_11 (N : Nat) (x2 : Int32) (t_inputCount : Int32) (t_inputs : Nat → Int32) (u_entryCount : Int32) (u_parameterCounts : Nat → Int32) (u_lengths : Nat → Int32) (u_fields : Nat → Int32) (u_entries : Nat → Int32) : Nat → Int32 → Int32 → Int32 → Int32 → Int32 → (Nat → Int32) → (Nat → Int32) → (Nat → Int32) → (Nat → Int32) → (Nat → Int32) → (Nat → Int32) → (Nat → Int32) → Option (Int32 × Int32 × Int32 × Int32 × Int32 × (Nat → Int32) × (Nat → Int32) × (Nat → Int32) × (Nat → Int32) × (Nat → Int32) × (Nat → Int32) × (Nat → Int32))
  | 0, _, _, _, _, _, _, _, _, _, _, _, _ => none
  | n + 1, x3, t_inputsRead, t_openCount, ty_doneCount, ty_outputCount, ty_outputValues, ty_callCounts, ty_latestValues, ty_differing, t_openFunctions, t_openStatements, t_registers => if 6002 ≤ x3 then some (1, t_inputsRead, t_openCount, ty_doneCount, ty_outputCount, ty_outputValues, ty_callCounts, ty_latestValues, ty_differing, t_openFunctions, t_openStatements, t_registers) else if t_openCount ≤ 0 then some (1, t_inputsRead, t_openCount, ty_doneCount, ty_outputCount, ty_outputValues, ty_callCounts, ty_latestValues, ty_differing, t_openFunctions, t_openStatements, t_registers) else (g_rd 11 t_openFunctions (t_openCount - 1)).bind (fun v3 => (g_rd 11 t_openStatements (t_openCount - 1)).bind (fun v4 => (g_rd 12 u_lengths v3).bind (fun v5 => if v4 < v5 then if ty_doneCount < x2 then (f_X2_doStatement N v3 v4 (t_openCount - 1) t_inputCount t_inputsRead t_openCount u_entryCount u_parameterCounts u_fields u_entries ty_outputCount ty_outputValues ty_callCounts ty_latestValues ty_differing t_inputs t_openFunctions t_openStatements t_registers).bind (fun o8 => if o8.1 = 0 then some (2, o8.2.1, o8.2.2.1, ty_doneCount, o8.2.2.2.1, o8.2.2.2.2.1, o8.2.2.2.2.2.1, o8.2.2.2.2.2.2.1, o8.2.2.2.2.2.2.2.1, o8.2.2.2.2.2.2.2.2.1, o8.2.2.2.2.2.2.2.2.2.1, o8.2.2.2.2.2.2.2.2.2.2) else f_X2_execute_11 N x2 t_inputCount t_inputs u_entryCount u_parameterCounts u_lengths u_fields u_entries n (x3 + 1) o8.2.1 o8.2.2.1 (ty_doneCount + 1) o8.2.2.2.1 o8.2.2.2.2.1 o8.2.2.2.2.2.1 o8.2.2.2.2.2.2.1 o8.2.2.2.2.2.2.2.1 o8.2.2.2.2.2.2.2.2.1 o8.2.2.2.2.2.2.2.2.2.1 o8.2.2.2.2.2.2.2.2.2.2) else some (0, t_inputsRead, t_openCount, ty_doneCount, ty_outputCount, ty_outputValues, ty_callCounts, ty_latestValues, ty_differing, t_openFunctions, t_openStatements, t_registers) else (f_X2_leaveCall 0 t_openCount u_fields t_openFunctions t_openStatements t_registers).bind (fun o10 => f_X2_execute_11 N x2 t_inputCount t_inputs u_entryCount u_parameterCounts u_lengths u_fields u_entries n (x3 + 1) t_inputsRead o10.1 ty_doneCount ty_outputCount ty_outputValues ty_callCounts ty_latestValues ty_differing t_openFunctions o10.2.1 o10.2.2))))
set_option maxHeartbeats 4000000 in
set_option maxRecDepth 100000 in
theorem b_X2_execute_11 {p : Program} {l : Launch} {e : Env} {s : State} {m : MethodId} {args : Array Value} {below : List Frame} {meth : Method} {c : Code} {tA : Nat} {dC : Nat → ClassId} {dI : Nat → Nat → Nat} {cI cZ cJ : ClassId} {A : Nat → Prop} {a_t : Nat} {a_ty : Nat} {a_ty_outputValues : Nat} {a_ty_callCounts : Nat} {a_ty_latestValues : Nat} {a_ty_differing : Nat} {a_t_inputs : Nat} {a_t_openFunctions : Nat} {a_t_openStatements : Nat} {a_t_registers : Nat} {a_u : Nat} {a_u_parameterCounts : Nat} {a_u_lengths : Nat} {a_u_fields : Nat} {a_u_entries : Nat} {x2 : Int32} {t_inputCount : Int32} {t_inputs : Nat → Int32} {u_entryCount : Int32} {u_parameterCounts : Nat → Int32} {u_lengths : Nat → Int32} {u_fields : Nat → Int32} {u_entries : Nat → Int32} {u_functionCount : Int32} {N : Nat} (hC : g_C p s m meth c args cX2_execute 7 (some .int) RX2) :
    ∀ (n : Nat) (x3 : Int32) (t_inputsRead : Int32) (t_openCount : Int32) (ty_doneCount : Int32) (ty_outputCount : Int32) (ty_outputValues : Nat → Int32) (ty_callCounts : Nat → Int32) (ty_latestValues : Nat → Int32) (ty_differing : Nat → Int32) (t_openFunctions : Nat → Int32) (t_openStatements : Nat → Int32) (t_registers : Nat → Int32) (out : Int32 × Int32 × Int32 × Int32 × Int32 × (Nat → Int32) × (Nat → Int32) × (Nat → Int32) × (Nat → Int32) × (Nat → Int32) × (Nat → Int32) × (Nat → Int32)), f_X2_execute_11 N x2 t_inputCount t_inputs u_entryCount u_parameterCounts u_lengths u_fields u_entries n x3 t_inputsRead t_openCount ty_doneCount ty_outputCount ty_outputValues ty_callCounts ty_latestValues ty_differing t_openFunctions t_openStatements t_registers = some out → ∀ (H : Heap) (locs : List Loc) (ls : Array Slot), g_W tA dC dI cI cZ cJ A s H locs (w_X2_execute cI cZ cJ a_t a_ty a_ty_outputValues a_ty_callCounts a_ty_latestValues a_ty_differing a_t_inputs a_t_openFunctions a_t_openStatements a_t_registers a_u a_u_parameterCounts a_u_lengths a_u_fields a_u_entries a_u t_inputCount t_inputsRead t_openCount ty_doneCount ty_outputCount ty_outputValues ty_callCounts ty_latestValues ty_differing t_inputs t_openFunctions t_openStatements t_registers u_functionCount u_entryCount u_parameterCounts u_lengths u_fields u_entries) → lv_has ls 7 [(0, .ref a_t), (1, .ref a_u), (2, .int x2), (3, .int x3)] → W p l e r_X2_execute s m args below meth c H locs 0 0 (MQ below (g_Qi dC dI cI cZ cJ A (w_X2_execute cI cZ cJ a_t a_ty a_ty_outputValues a_ty_callCounts a_ty_latestValues a_ty_differing a_t_inputs a_t_openFunctions a_t_openStatements a_t_registers a_u a_u_parameterCounts a_u_lengths a_u_fields a_u_entries a_u t_inputCount out.2.1 out.2.2.1 out.2.2.2.1 out.2.2.2.2.1 out.2.2.2.2.2.1 out.2.2.2.2.2.2.1 out.2.2.2.2.2.2.2.1 out.2.2.2.2.2.2.2.2.1 t_inputs out.2.2.2.2.2.2.2.2.2.1 out.2.2.2.2.2.2.2.2.2.2.1 out.2.2.2.2.2.2.2.2.2.2.2 u_functionCount u_entryCount u_parameterCounts u_lengths u_fields u_entries) out.1) args s 0 0 A) (F0 m 11 ls []) := by
  have hx := hC.1
  have hb := hC.2.1
  have hown := hC.2.2.2.2.1
  have hts := hC.2.2.2.2.2.1
  intro n
  induction n with
  | zero =>
    intro x3 t_inputsRead t_openCount ty_doneCount ty_outputCount ty_outputValues ty_callCounts ty_latestValues ty_differing t_openFunctions t_openStatements t_registers out hf
    exact g_no hf
  | succ n ih =>
    intro x3 t_inputsRead t_openCount ty_doneCount ty_outputCount ty_outputValues ty_callCounts ty_latestValues ty_differing t_openFunctions t_openStatements t_registers out hf H locs ls hW hl
    refine lv_iload_n hx hb dX2_execute_11 rfl (lv_at hl 3 rfl) ?_
    refine lv_sipush (v := 6002) hx hb dX2_execute_12 (by decide) ?_
    refine lv_icmp_ge (tgt := 121) hx hb dX2_execute_15 (by decide) (fun c1 => ?_) (fun c1 => ?_)
    · replace hf := (if_pos c1).symm.trans hf
      refine lv_iconst (v := 1) hx hb dX2_execute_121 (by decide) ?_
      obtain rfl := Option.some.inj hf
      exact gs_ri hC hW rfl dX2_execute_122
    · replace hf := (if_neg c1).symm.trans hf
      refine lv_aload_n hx hb dX2_execute_18 rfl (lv_at hl 0 rfl) ?_
      refine gs_get hC hW in_X2 0 8 rfl rfl (by decide) fl_X2_39 rfl dX2_execute_19 ?_
      refine lv_if_le (tgt := 121) hx hb dX2_execute_22 (by decide) (fun c2 => ?_) (fun c2 => ?_)
      · replace hf := (if_pos c2).symm.trans hf
        refine lv_iconst (v := 1) hx hb dX2_execute_121 (by decide) ?_
        obtain rfl := Option.some.inj hf
        exact gs_ri hC hW rfl dX2_execute_122
      · replace hf := (if_neg c2).symm.trans hf
        refine lv_aload_n hx hb dX2_execute_25 rfl (lv_at hl 0 rfl) ?_
        refine gs_get hC hW in_X2 0 8 rfl rfl (by decide) fl_X2_39 rfl dX2_execute_26 ?_
        refine lv_iconst (v := 1) hx hb dX2_execute_29 (by decide) ?_
        refine lv_isub hx hb dX2_execute_30 ?_
        refine lv_istore (lv' := [(4, .int (t_openCount - 1)), (0, .ref a_t), (1, .ref a_u), (2, .int x2), (3, .int x3)]) hx hb dX2_execute_31 hl (by decide) rfl (fun ls hl => ?_)
        refine lv_aload_n hx hb dX2_execute_33 rfl (lv_at hl 1 rfl) ?_
        refine gs_get hC hW in_X2 0 5 rfl rfl (by decide) fl_X2_30 rfl dX2_execute_34 ?_
        refine lv_iload hx hb dX2_execute_37 (lv_at hl 0 rfl) ?_
        obtain ⟨v3, h3, hf⟩ := g_bnd hf
        refine gs_iald hC hW 7 h3 rfl dX2_execute_39 ?_
        refine lv_istore (lv' := [(5, .int v3), (4, .int (t_openCount - 1)), (0, .ref a_t), (1, .ref a_u), (2, .int x2), (3, .int x3)]) hx hb dX2_execute_40 hl (by decide) rfl (fun ls hl => ?_)
        refine lv_aload_n hx hb dX2_execute_42 rfl (lv_at hl 2 rfl) ?_
        refine gs_get hC hW in_X2 0 6 rfl rfl (by decide) fl_X2_33 rfl dX2_execute_43 ?_
        refine lv_iload hx hb dX2_execute_46 (lv_at hl 1 rfl) ?_
        obtain ⟨v4, h4, hf⟩ := g_bnd hf
        refine gs_iald hC hW 8 h4 rfl dX2_execute_48 ?_
        refine lv_istore (lv' := [(6, .int v4), (5, .int v3), (4, .int (t_openCount - 1)), (0, .ref a_t), (1, .ref a_u), (2, .int x2), (3, .int x3)]) hx hb dX2_execute_49 hl (by decide) rfl (fun ls hl => ?_)
        refine lv_iload hx hb dX2_execute_51 (lv_at hl 0 rfl) ?_
        refine lv_aload_n hx hb dX2_execute_53 rfl (lv_at hl 3 rfl) ?_
        refine gs_get hC hW in_X2 0 0 rfl rfl (by decide) fl_X2_9 rfl dX2_execute_54 ?_
        refine gs_get hC hW in_X4 10 3 rfl rfl (by decide) fl_X2_45 rfl dX2_execute_57 ?_
        refine lv_iload hx hb dX2_execute_60 (lv_at hl 1 rfl) ?_
        obtain ⟨v5, h5, hf⟩ := g_bnd hf
        refine gs_iald hC hW 12 h5 rfl dX2_execute_62 ?_
        refine lv_icmp_lt (tgt := 74) hx hb dX2_execute_63 (by decide) (fun c6 => ?_) (fun c6 => ?_)
        · replace hf := (if_pos c6).symm.trans hf
          refine lv_aload_n hx hb dX2_execute_74 rfl (lv_at hl 3 rfl) ?_
          refine gs_get hC hW in_X2 0 1 rfl rfl (by decide) fl_X2_15 rfl dX2_execute_75 ?_
          refine gs_get hC hW in_X6 1 0 rfl rfl (by decide) fl_X2_54 rfl dX2_execute_78 ?_
          refine lv_iload_n hx hb dX2_execute_81 rfl (lv_at hl 5 rfl) ?_
          refine lv_icmp_lt (tgt := 87) hx hb dX2_execute_82 (by decide) (fun c7 => ?_) (fun c7 => ?_)
          · replace hf := (if_pos c7).symm.trans hf
            refine lv_aload_n hx hb dX2_execute_87 rfl (lv_at hl 3 rfl) ?_
            refine lv_iload hx hb dX2_execute_88 (lv_at hl 1 rfl) ?_
            refine lv_iload hx hb dX2_execute_90 (lv_at hl 0 rfl) ?_
            refine lv_iload hx hb dX2_execute_92 (lv_at hl 2 rfl) ?_
            obtain ⟨o8, h8, hf⟩ := g_bnd hf
            refine gs_callVi (ws' := w_X2_execute cI cZ cJ a_t a_ty a_ty_outputValues a_ty_callCounts a_ty_latestValues a_ty_differing a_t_inputs a_t_openFunctions a_t_openStatements a_t_registers a_u a_u_parameterCounts a_u_lengths a_u_fields a_u_entries a_u t_inputCount o8.2.1 o8.2.2.1 ty_doneCount o8.2.2.2.1 o8.2.2.2.2.1 o8.2.2.2.2.2.1 o8.2.2.2.2.2.2.1 o8.2.2.2.2.2.2.2.1 t_inputs o8.2.2.2.2.2.2.2.2.1 o8.2.2.2.2.2.2.2.2.2.1 o8.2.2.2.2.2.2.2.2.2.2 u_functionCount u_entryCount u_parameterCounts u_lengths u_fields u_entries) hC hW (k_X2_doStatement l tA dC dI cI cZ cJ a_t a_u a_u_parameterCounts a_u_fields a_u_entries a_ty a_ty_outputValues a_ty_callCounts a_ty_latestValues a_ty_differing a_t_inputs a_t_openFunctions a_t_openStatements a_t_registers a_u_lengths N v3 v4 (t_openCount - 1) t_inputCount t_inputsRead t_openCount u_functionCount u_entryCount u_parameterCounts u_fields u_entries ty_doneCount ty_outputCount ty_outputValues ty_callCounts ty_latestValues ty_differing t_inputs t_openFunctions t_openStatements t_registers _ h8) yk_X2_doStatement lk_X2_59 iv_X2_doStatement ⟨rfl, rfl⟩ ⟨Nat.le_of_ble_eq_true rfl, Nat.le_of_ble_eq_true rfl⟩ hl.1 0 rfl rfl [0, 10, 11, 13, 14, 1, 2, 3, 4, 5, 6, 7, 8, 9] [12] [1, 6, 7, 8, 9, 10, 11, 12, 13, 14, 2, 3, 0, 4, 5] rfl rfl rfl rfl (by decide) rfl rfl rfl rfl (Nat.le_of_ble_eq_true rfl) dX2_execute_94 ⟨Nat.zero_le _, Nat.zero_le _⟩ (fun H locs hW => ?_)
            refine lv_if_ne (tgt := 102) hx hb dX2_execute_97 (by decide) (fun c9 => ?_) (fun c9 => ?_)
            · replace hf := (if_neg c9).symm.trans hf
              refine lv_aload_n hx hb dX2_execute_102 rfl (lv_at hl 3 rfl) ?_
              refine gs_get hC hW in_X2 0 1 rfl rfl (by decide) fl_X2_15 rfl dX2_execute_103 ?_
              refine lv_dup hx hb dX2_execute_106 rfl ?_
              refine gs_get hC hW in_X6 1 0 rfl rfl (by decide) fl_X2_54 rfl dX2_execute_107 ?_
              refine lv_iconst (v := 1) hx hb dX2_execute_110 (by decide) ?_
              refine lv_iadd hx hb dX2_execute_111 ?_
              refine gs_put (ws' := w_X2_execute cI cZ cJ a_t a_ty a_ty_outputValues a_ty_callCounts a_ty_latestValues a_ty_differing a_t_inputs a_t_openFunctions a_t_openStatements a_t_registers a_u a_u_parameterCounts a_u_lengths a_u_fields a_u_entries a_u t_inputCount o8.2.1 o8.2.2.1 (ty_doneCount + 1) o8.2.2.2.1 o8.2.2.2.2.1 o8.2.2.2.2.2.1 o8.2.2.2.2.2.2.1 o8.2.2.2.2.2.2.2.1 t_inputs o8.2.2.2.2.2.2.2.2.1 o8.2.2.2.2.2.2.2.2.2.1 o8.2.2.2.2.2.2.2.2.2.2 u_functionCount u_entryCount u_parameterCounts u_lengths u_fields u_entries) hC hW in_X6 tyX6_ok nmX6 1 0 rfl rfl (by decide) fl_X2_54 rfl rfl rfl (Nat.le_of_ble_eq_true rfl) rfl dX2_execute_112 (fun H locs hW => ?_)
              refine lv_iinc (v := x3 + 1) (lv' := [(3, .int (x3 + 1)), (6, .int v4), (5, .int v3), (4, .int (t_openCount - 1)), (0, .ref a_t), (1, .ref a_u), (2, .int x2)]) hx hb dX2_execute_115 hl (k := 6) rfl rfl (by decide) rfl (fun ls hl => ?_)
              refine lv_goto (tgt := 11) hx hb dX2_execute_118 (by decide) ?_
              exact ih _ _ _ _ _ _ _ _ _ _ _ _ _ hf _ _ _ hW (lv_sub hl [4, 5, 6, 0] rfl)
            · replace hf := (if_pos c9).symm.trans hf
              refine lv_iconst (v := 2) hx hb dX2_execute_100 (by decide) ?_
              obtain rfl := Option.some.inj hf
              exact gs_ri hC hW rfl dX2_execute_101
          · replace hf := (if_neg c7).symm.trans hf
            refine lv_iconst (v := 0) hx hb dX2_execute_85 (by decide) ?_
            obtain rfl := Option.some.inj hf
            exact gs_ri hC hW rfl dX2_execute_86
        · replace hf := (if_neg c6).symm.trans hf
          refine lv_aload_n hx hb dX2_execute_66 rfl (lv_at hl 3 rfl) ?_
          refine lv_iconst (v := 0) hx hb dX2_execute_67 (by decide) ?_
          obtain ⟨o10, h10, hf⟩ := g_bnd hf
          refine gs_callVv (ws' := w_X2_execute cI cZ cJ a_t a_ty a_ty_outputValues a_ty_callCounts a_ty_latestValues a_ty_differing a_t_inputs a_t_openFunctions a_t_openStatements a_t_registers a_u a_u_parameterCounts a_u_lengths a_u_fields a_u_entries a_u t_inputCount t_inputsRead o10.1 ty_doneCount ty_outputCount ty_outputValues ty_callCounts ty_latestValues ty_differing t_inputs t_openFunctions o10.2.1 o10.2.2 u_functionCount u_entryCount u_parameterCounts u_lengths u_fields u_entries) hC hW (k_X2_leaveCall l tA dC dI cI cZ cJ a_t a_u a_u_fields a_t_openFunctions a_t_openStatements a_t_registers a_ty a_t_inputs a_u_parameterCounts a_u_lengths a_u_entries 0 t_inputCount t_inputsRead t_openCount u_functionCount u_entryCount u_fields t_openFunctions t_openStatements t_registers _ h10) yk_X2_leaveCall lk_X2_50 iv_X2_leaveCall ⟨rfl, rfl⟩ ⟨Nat.le_of_ble_eq_true rfl, Nat.le_of_ble_eq_true rfl⟩ hl.1 0 rfl rfl [0, 10, 13, 7, 8, 9] [1, 2, 3, 4, 5, 6, 11, 12, 14] [9, 0, 1, 2, 3, 4, 5, 12, 13, 14, 10, 6, 7, 11, 8] rfl rfl rfl rfl (by decide) rfl rfl rfl rfl (Nat.le_of_ble_eq_true rfl) dX2_execute_68 ⟨Nat.zero_le _, Nat.zero_le _⟩ (fun H locs hW => ?_)
          refine lv_goto (tgt := 115) hx hb dX2_execute_71 (by decide) ?_
          refine lv_iinc (v := x3 + 1) (lv' := [(3, .int (x3 + 1)), (6, .int v4), (5, .int v3), (4, .int (t_openCount - 1)), (0, .ref a_t), (1, .ref a_u), (2, .int x2)]) hx hb dX2_execute_115 hl (k := 6) rfl rfl (by decide) rfl (fun ls hl => ?_)
          refine lv_goto (tgt := 11) hx hb dX2_execute_118 (by decide) ?_
          exact ih _ _ _ _ _ _ _ _ _ _ _ _ _ hf _ _ _ hW (lv_sub hl [4, 5, 6, 0] rfl)
def f_X2_execute (N : Nat) (x2 : Int32) (t_inputCount : Int32) (t_inputsRead : Int32) (t_openCount : Int32) (ty_doneCount : Int32) (ty_outputCount : Int32) (ty_outputValues : Nat → Int32) (ty_callCounts : Nat → Int32) (ty_latestValues : Nat → Int32) (ty_differing : Nat → Int32) (t_inputs : Nat → Int32) (t_openFunctions : Nat → Int32) (t_openStatements : Nat → Int32) (t_registers : Nat → Int32) (u_entryCount : Int32) (u_parameterCounts : Nat → Int32) (u_lengths : Nat → Int32) (u_fields : Nat → Int32) (u_entries : Nat → Int32) : Option (Int32 × Int32 × Int32 × Int32 × Int32 × (Nat → Int32) × (Nat → Int32) × (Nat → Int32) × (Nat → Int32) × (Nat → Int32) × (Nat → Int32) × (Nat → Int32)) := (f_X2_begin N t_inputsRead t_openCount ty_doneCount ty_outputCount ty_callCounts ty_latestValues ty_differing t_openFunctions t_openStatements t_registers).bind (fun o11 => f_X2_execute_11 N x2 t_inputCount t_inputs u_entryCount u_parameterCounts u_lengths u_fields u_entries N 0 o11.1 o11.2.1 o11.2.2.1 o11.2.2.2.1 ty_outputValues o11.2.2.2.2.1 o11.2.2.2.2.2.1 o11.2.2.2.2.2.2.1 o11.2.2.2.2.2.2.2.1 o11.2.2.2.2.2.2.2.2.1 o11.2.2.2.2.2.2.2.2.2)
set_option maxHeartbeats 4000000 in
set_option maxRecDepth 100000 in
theorem k_X2_execute (l : Launch) (tA : Nat) (dC : Nat → ClassId) (dI : Nat → Nat → Nat) (cI cZ cJ : ClassId) (a_t : Nat) (a_ty : Nat) (a_ty_outputValues : Nat) (a_ty_callCounts : Nat) (a_ty_latestValues : Nat) (a_ty_differing : Nat) (a_t_inputs : Nat) (a_t_openFunctions : Nat) (a_t_openStatements : Nat) (a_t_registers : Nat) (a_u : Nat) (a_u_parameterCounts : Nat) (a_u_lengths : Nat) (a_u_fields : Nat) (a_u_entries : Nat) (a_old : Nat) (N : Nat) (x2 : Int32) (t_inputCount : Int32) (t_inputsRead : Int32) (t_openCount : Int32) (ty_doneCount : Int32) (ty_outputCount : Int32) (ty_outputValues : Nat → Int32) (ty_callCounts : Nat → Int32) (ty_latestValues : Nat → Int32) (ty_differing : Nat → Int32) (t_inputs : Nat → Int32) (t_openFunctions : Nat → Int32) (t_openStatements : Nat → Int32) (t_registers : Nat → Int32) (u_functionCount : Int32) (u_entryCount : Int32) (u_parameterCounts : Nat → Int32) (u_lengths : Nat → Int32) (u_fields : Nat → Int32) (u_entries : Nat → Int32) (out : Int32 × Int32 × Int32 × Int32 × Int32 × (Nat → Int32) × (Nat → Int32) × (Nat → Int32) × (Nat → Int32) × (Nat → Int32) × (Nat → Int32) × (Nat → Int32)) (hf : f_X2_execute N x2 t_inputCount t_inputsRead t_openCount ty_doneCount ty_outputCount ty_outputValues ty_callCounts ty_latestValues ty_differing t_inputs t_openFunctions t_openStatements t_registers u_entryCount u_parameterCounts u_lengths u_fields u_entries = some out) : g_Mi l yX2_execute cX2_execute 7 (some .int) r_X2_execute tA dC dI cI cZ cJ [.ref a_t, .ref a_u, .int x2] (w_X2_execute cI cZ cJ a_t a_ty a_ty_outputValues a_ty_callCounts a_ty_latestValues a_ty_differing a_t_inputs a_t_openFunctions a_t_openStatements a_t_registers a_u a_u_parameterCounts a_u_lengths a_u_fields a_u_entries a_old t_inputCount t_inputsRead t_openCount ty_doneCount ty_outputCount ty_outputValues ty_callCounts ty_latestValues ty_differing t_inputs t_openFunctions t_openStatements t_registers u_functionCount u_entryCount u_parameterCounts u_lengths u_fields u_entries) (w_X2_execute cI cZ cJ a_t a_ty a_ty_outputValues a_ty_callCounts a_ty_latestValues a_ty_differing a_t_inputs a_t_openFunctions a_t_openStatements a_t_registers a_u a_u_parameterCounts a_u_lengths a_u_fields a_u_entries a_u t_inputCount out.2.1 out.2.2.1 out.2.2.2.1 out.2.2.2.2.1 out.2.2.2.2.2.1 out.2.2.2.2.2.2.1 out.2.2.2.2.2.2.2.1 out.2.2.2.2.2.2.2.2.1 t_inputs out.2.2.2.2.2.2.2.2.2.1 out.2.2.2.2.2.2.2.2.2.2.1 out.2.2.2.2.2.2.2.2.2.2.2 u_functionCount u_entryCount u_parameterCounts u_lengths u_fields u_entries) out.1 := by
  unfold f_X2_execute at hf
  refine ge_i (by decide) (Nat.le_of_ble_eq_true rfl) (fun p e s m below meth c A H locs ls hC hW hl => ?_)
  have hC : g_C p s m meth c _ cX2_execute 7 (some .int) RX2 := hC
  have hx := hC.1
  have hb := hC.2.1
  have hown := hC.2.2.2.2.1
  have hts := hC.2.2.2.2.2.1
  have hl : lv_has ls 7 [(0, .ref a_t), (1, .ref a_u), (2, .int x2)] := hl
  refine lv_aload_n hx hb dX2_execute_0 rfl (lv_at hl 0 rfl) ?_
  refine lv_aload_n hx hb dX2_execute_1 rfl (lv_at hl 1 rfl) ?_
  refine gs_put (ws' := w_X2_execute cI cZ cJ a_t a_ty a_ty_outputValues a_ty_callCounts a_ty_latestValues a_ty_differing a_t_inputs a_t_openFunctions a_t_openStatements a_t_registers a_u a_u_parameterCounts a_u_lengths a_u_fields a_u_entries a_u t_inputCount t_inputsRead t_openCount ty_doneCount ty_outputCount ty_outputValues ty_callCounts ty_latestValues ty_differing t_inputs t_openFunctions t_openStatements t_registers u_functionCount u_entryCount u_parameterCounts u_lengths u_fields u_entries) hC hW in_X2 tyX2_ok nmX2 0 0 rfl rfl (by decide) fl_X2_9 rfl rfl rfl (Nat.le_of_ble_eq_true rfl) rfl dX2_execute_2 (fun H locs hW => ?_)
  refine lv_aload_n hx hb dX2_execute_5 rfl (lv_at hl 0 rfl) ?_
  obtain ⟨o11, h11, hf⟩ := g_bnd hf
  refine gs_callVv (ws' := w_X2_execute cI cZ cJ a_t a_ty a_ty_outputValues a_ty_callCounts a_ty_latestValues a_ty_differing a_t_inputs a_t_openFunctions a_t_openStatements a_t_registers a_u a_u_parameterCounts a_u_lengths a_u_fields a_u_entries a_u t_inputCount o11.1 o11.2.1 o11.2.2.1 o11.2.2.2.1 ty_outputValues o11.2.2.2.2.1 o11.2.2.2.2.2.1 o11.2.2.2.2.2.2.1 t_inputs o11.2.2.2.2.2.2.2.1 o11.2.2.2.2.2.2.2.2.1 o11.2.2.2.2.2.2.2.2.2 u_functionCount u_entryCount u_parameterCounts u_lengths u_fields u_entries) hC hW (k_X2_begin l tA dC dI cI cZ cJ a_t a_ty a_ty_callCounts a_ty_latestValues a_ty_differing a_t_openFunctions a_t_openStatements a_t_registers a_u a_t_inputs a_ty_outputValues N t_inputCount t_inputsRead t_openCount ty_doneCount ty_outputCount ty_callCounts ty_latestValues ty_differing t_openFunctions t_openStatements t_registers _ h11) yk_X2_begin lk_X2_42 iv_X2_begin ⟨rfl, rfl⟩ ⟨Nat.le_of_ble_eq_true rfl, Nat.le_of_ble_eq_true rfl⟩ hl.1 0 rfl rfl [0, 1, 3, 4, 5, 7, 8, 9] [2, 6, 10, 11, 12, 13, 14] [7, 8, 0, 9, 10, 11, 1, 12, 13, 14, 2, 3, 4, 5, 6] rfl rfl rfl rfl (by decide) rfl rfl rfl rfl (Nat.le_of_ble_eq_true rfl) dX2_execute_6 ⟨Nat.zero_le _, Nat.zero_le _⟩ (fun H locs hW => ?_)
  refine lv_iconst (v := 0) hx hb dX2_execute_9 (by decide) ?_
  refine lv_istore_n (lv' := [(3, .int 0), (0, .ref a_t), (1, .ref a_u), (2, .int x2)]) hx hb dX2_execute_10 rfl hl (by decide) rfl (fun ls hl => ?_)
  exact b_X2_execute_11 hC N _ _ _ _ _ _ _ _ _ _ _ _ _ hf _ _ _ hW (lv_sub hl [1, 2, 3, 0] rfl)
