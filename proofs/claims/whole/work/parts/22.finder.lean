theorem in_X0 : ∀ w ∈ wsX00, w ∈ gw := by decide +kernel
theorem fl_X0_9 : Cond.fieldLink RX0 9 (TX0 0).1 (TX0 0).2.1 (TX0 0).2.2.1 ∈ gw := gw_i 159 (by decide +kernel) rfl
theorem yk_X4_placeOf : g_Y yX4_placeOf cX4_placeOf 3 (some .int) 2 := ⟨gw_i 513 (by decide +kernel) rfl, gw_i 57 (by decide +kernel) rfl, by decide +kernel, by decide +kernel, by decide +kernel⟩
theorem lk_X0_53 : Cond.methodLink RX0 53 yX4_placeOf ∈ gw := gw_i 510 (by decide +kernel) rfl
theorem iv_X4_placeOf : Cond.instanceMethod yX4_placeOf ∈ gw ∧ Cond.selects RX4 yX4_placeOf yX4_placeOf ∈ gw := ⟨gw_i 511 (by decide +kernel) rfl, gw_i 512 (by decide +kernel) rfl⟩
theorem fl_X0_15 : Cond.fieldLink RX0 15 (TX0 1).1 (TX0 1).2.1 (TX0 1).2.2.1 ∈ gw := gw_i 160 (by decide +kernel) rfl
theorem fl_X0_22 : Cond.fieldLink RX0 22 (TX0 2).1 (TX0 2).2.1 (TX0 2).2.2.1 ∈ gw := gw_i 161 (by decide +kernel) rfl
theorem yk_X1_join : g_Y yX1_join cX1_join 7 (some .boolean) 2 := ⟨gw_i 517 (by decide +kernel) rfl, gw_i 58 (by decide +kernel) rfl, by decide +kernel, by decide +kernel, by decide +kernel⟩
theorem lk_X0_59 : Cond.methodLink RX0 59 yX1_join ∈ gw := gw_i 514 (by decide +kernel) rfl
theorem iv_X1_join : Cond.instanceMethod yX1_join ∈ gw ∧ Cond.selects RX1 yX1_join yX1_join ∈ gw := ⟨gw_i 515 (by decide +kernel) rfl, gw_i 516 (by decide +kernel) rfl⟩
theorem fl_X0_26 : Cond.fieldLink RX0 26 (TX0 3).1 (TX0 3).2.1 (TX0 3).2.2.1 ∈ gw := gw_i 162 (by decide +kernel) rfl
theorem fl_X0_30 : Cond.fieldLink RX0 30 (TX0 4).1 (TX0 4).2.1 (TX0 4).2.2.1 ∈ gw := gw_i 163 (by decide +kernel) rfl
theorem fl_X0_34 : Cond.fieldLink RX0 34 (TX0 5).1 (TX0 5).2.1 (TX0 5).2.2.1 ∈ gw := gw_i 164 (by decide +kernel) rfl
theorem yk_X1_hasNumber : g_Y yX1_hasNumber cX1_hasNumber 4 (some .boolean) 2 := ⟨gw_i 541 (by decide +kernel) rfl, gw_i 58 (by decide +kernel) rfl, by decide +kernel, by decide +kernel, by decide +kernel⟩
theorem lk_X0_87 : Cond.methodLink RX0 87 yX1_hasNumber ∈ gw := gw_i 538 (by decide +kernel) rfl
theorem iv_X1_hasNumber : Cond.instanceMethod yX1_hasNumber ∈ gw ∧ Cond.selects RX1 yX1_hasNumber yX1_hasNumber ∈ gw := ⟨gw_i 539 (by decide +kernel) rfl, gw_i 540 (by decide +kernel) rfl⟩
theorem yk_X5_putAny : g_Y yX5_putAny cX5_putAny 2 (none : Option Jvm.ClassFile.FieldType) 1 := ⟨gw_i 549 (by decide +kernel) rfl, gw_i 60 (by decide +kernel) rfl, by decide +kernel, by decide +kernel, by decide +kernel⟩
theorem lk_X0_94 : Cond.methodLink RX0 94 yX5_putAny ∈ gw := gw_i 546 (by decide +kernel) rfl
theorem iv_X5_putAny : Cond.instanceMethod yX5_putAny ∈ gw ∧ Cond.selects RX5 yX5_putAny yX5_putAny ∈ gw := ⟨gw_i 547 (by decide +kernel) rfl, gw_i 548 (by decide +kernel) rfl⟩
theorem yk_X1_numberOf : g_Y yX1_numberOf cX1_numberOf 4 (some .int) 2 := ⟨gw_i 545 (by decide +kernel) rfl, gw_i 58 (by decide +kernel) rfl, by decide +kernel, by decide +kernel, by decide +kernel⟩
theorem lk_X0_91 : Cond.methodLink RX0 91 yX1_numberOf ∈ gw := gw_i 542 (by decide +kernel) rfl
theorem iv_X1_numberOf : Cond.instanceMethod yX1_numberOf ∈ gw ∧ Cond.selects RX1 yX1_numberOf yX1_numberOf ∈ gw := ⟨gw_i 543 (by decide +kernel) rfl, gw_i 544 (by decide +kernel) rfl⟩
theorem yk_X5_putNumber : g_Y yX5_putNumber cX5_putNumber 3 (none : Option Jvm.ClassFile.FieldType) 2 := ⟨gw_i 505 (by decide +kernel) rfl, gw_i 60 (by decide +kernel) rfl, by decide +kernel, by decide +kernel, by decide +kernel⟩
theorem lk_X0_43 : Cond.methodLink RX0 43 yX5_putNumber ∈ gw := gw_i 502 (by decide +kernel) rfl
theorem iv_X5_putNumber : Cond.instanceMethod yX5_putNumber ∈ gw ∧ Cond.selects RX5 yX5_putNumber yX5_putNumber ∈ gw := ⟨gw_i 503 (by decide +kernel) rfl, gw_i 504 (by decide +kernel) rfl⟩
theorem yk_X0_arriveAt : g_Y yX0_arriveAt cX0_arriveAt 4 (none : Option Jvm.ClassFile.FieldType) 2 := ⟨gw_i 509 (by decide +kernel) rfl, gw_i 59 (by decide +kernel) rfl, by decide +kernel, by decide +kernel, by decide +kernel⟩
theorem lk_X0_47 : Cond.methodLink RX0 47 yX0_arriveAt ∈ gw := gw_i 506 (by decide +kernel) rfl
theorem iv_X0_arriveAt : Cond.instanceMethod yX0_arriveAt ∈ gw ∧ Cond.selects RX0 yX0_arriveAt yX0_arriveAt ∈ gw := ⟨gw_i 508 (by decide +kernel) rfl, gw_i 2 (by decide +kernel) rfl⟩
theorem fl_X0_118 : Cond.fieldLink RX0 118 (TX4 2).1 (TX4 2).2.1 (TX4 2).2.2.1 ∈ gw := gw_i 95 (by decide +kernel) rfl
theorem yk_X4_fieldOf : g_Y yX4_fieldOf cX4_fieldOf 4 (some .int) 3 := ⟨gw_i 525 (by decide +kernel) rfl, gw_i 57 (by decide +kernel) rfl, by decide +kernel, by decide +kernel, by decide +kernel⟩
theorem lk_X0_66 : Cond.methodLink RX0 66 yX4_fieldOf ∈ gw := gw_i 522 (by decide +kernel) rfl
theorem iv_X4_fieldOf : Cond.instanceMethod yX4_fieldOf ∈ gw ∧ Cond.selects RX4 yX4_fieldOf yX4_fieldOf ∈ gw := ⟨gw_i 523 (by decide +kernel) rfl, gw_i 524 (by decide +kernel) rfl⟩
theorem yk_X0_takeOperand : g_Y yX0_takeOperand cX0_takeOperand 4 (none : Option Jvm.ClassFile.FieldType) 3 := ⟨gw_i 537 (by decide +kernel) rfl, gw_i 59 (by decide +kernel) rfl, by decide +kernel, by decide +kernel, by decide +kernel⟩
theorem lk_X0_84 : Cond.methodLink RX0 84 yX0_takeOperand ∈ gw := gw_i 534 (by decide +kernel) rfl
theorem iv_X0_takeOperand : Cond.instanceMethod yX0_takeOperand ∈ gw ∧ Cond.selects RX0 yX0_takeOperand yX0_takeOperand ∈ gw := ⟨gw_i 536 (by decide +kernel) rfl, gw_i 6 (by decide +kernel) rfl⟩
theorem fl_X0_97 : Cond.fieldLink RX0 97 (TX4 1).1 (TX4 1).2.1 (TX4 1).2.2.1 ∈ gw := gw_i 92 (by decide +kernel) rfl
theorem fl_X0_111 : Cond.fieldLink RX0 111 (TX4 5).1 (TX4 5).2.1 (TX4 5).2.2.1 ∈ gw := gw_i 104 (by decide +kernel) rfl
theorem yk_X0_goInto : g_Y yX0_goInto cX0_goInto 6 (none : Option Jvm.ClassFile.FieldType) 3 := ⟨gw_i 533 (by decide +kernel) rfl, gw_i 59 (by decide +kernel) rfl, by decide +kernel, by decide +kernel, by decide +kernel⟩
theorem lk_X0_108 : Cond.methodLink RX0 108 yX0_goInto ∈ gw := gw_i 530 (by decide +kernel) rfl
theorem iv_X0_goInto : Cond.instanceMethod yX0_goInto ∈ gw ∧ Cond.selects RX0 yX0_goInto yX0_goInto ∈ gw := ⟨gw_i 532 (by decide +kernel) rfl, gw_i 5 (by decide +kernel) rfl⟩
theorem yk_X4_entryFor : g_Y yX4_entryFor cX4_entryFor 2 (some .int) 1 := ⟨gw_i 553 (by decide +kernel) rfl, gw_i 57 (by decide +kernel) rfl, by decide +kernel, by decide +kernel, by decide +kernel⟩
theorem lk_X0_114 : Cond.methodLink RX0 114 yX4_entryFor ∈ gw := gw_i 550 (by decide +kernel) rfl
theorem iv_X4_entryFor : Cond.instanceMethod yX4_entryFor ∈ gw ∧ Cond.selects RX4 yX4_entryFor yX4_entryFor ∈ gw := ⟨gw_i 551 (by decide +kernel) rfl, gw_i 552 (by decide +kernel) rfl⟩
theorem ln_X0_103 : Cond.methodLinkNest RX0 103 yX7_compute RX7 ∈ gn := gn_i 573 (by decide +kernel) rfl
theorem yk_X7_compute : g_Y yX7_compute cX7_compute 3 (some .int) 3 := ⟨gw_i 575 (by decide +kernel) rfl, gw_i 56 (by decide +kernel) rfl, by decide +kernel, by decide +kernel, by decide +kernel⟩
theorem is_X7_compute : Cond.static yX7_compute ∈ gw := gw_i 574 (by decide +kernel) rfl
theorem co_X0_106 : Cond.constant RX0 106 (-268435456) ∈ gw := gw_i 576 (by decide +kernel) rfl
theorem co_X0_107 : Cond.constant RX0 107 268435455 ∈ gw := gw_i 577 (by decide +kernel) rfl
theorem yk_X0_putComputed : g_Y yX0_putComputed cX0_putComputed 9 (none : Option Jvm.ClassFile.FieldType) 3 := ⟨gw_i 572 (by decide +kernel) rfl, gw_i 59 (by decide +kernel) rfl, by decide +kernel, by decide +kernel, by decide +kernel⟩
theorem lk_X0_100 : Cond.methodLink RX0 100 yX0_putComputed ∈ gw := gw_i 569 (by decide +kernel) rfl
theorem iv_X0_putComputed : Cond.instanceMethod yX0_putComputed ∈ gw ∧ Cond.selects RX0 yX0_putComputed yX0_putComputed ∈ gw := ⟨gw_i 571 (by decide +kernel) rfl, gw_i 10 (by decide +kernel) rfl⟩
theorem yk_X0_takeRegisters : g_Y yX0_takeRegisters cX0_takeRegisters 3 (none : Option Jvm.ClassFile.FieldType) 1 := ⟨gw_i 560 (by decide +kernel) rfl, gw_i 59 (by decide +kernel) rfl, by decide +kernel, by decide +kernel, by decide +kernel⟩
theorem lk_X0_74 : Cond.methodLink RX0 74 yX0_takeRegisters ∈ gw := gw_i 557 (by decide +kernel) rfl
theorem iv_X0_takeRegisters : Cond.instanceMethod yX0_takeRegisters ∈ gw ∧ Cond.selects RX0 yX0_takeRegisters yX0_takeRegisters ∈ gw := ⟨gw_i 559 (by decide +kernel) rfl, gw_i 7 (by decide +kernel) rfl⟩
theorem yk_X0_goOnFromIf : g_Y yX0_goOnFromIf cX0_goOnFromIf 7 (none : Option Jvm.ClassFile.FieldType) 2 := ⟨gw_i 564 (by decide +kernel) rfl, gw_i 59 (by decide +kernel) rfl, by decide +kernel, by decide +kernel, by decide +kernel⟩
theorem lk_X0_78 : Cond.methodLink RX0 78 yX0_goOnFromIf ∈ gw := gw_i 561 (by decide +kernel) rfl
theorem iv_X0_goOnFromIf : Cond.instanceMethod yX0_goOnFromIf ∈ gw ∧ Cond.selects RX0 yX0_goOnFromIf yX0_goOnFromIf ∈ gw := ⟨gw_i 563 (by decide +kernel) rfl, gw_i 8 (by decide +kernel) rfl⟩
theorem yk_X0_putResult : g_Y yX0_putResult cX0_putResult 5 (none : Option Jvm.ClassFile.FieldType) 3 := ⟨gw_i 568 (by decide +kernel) rfl, gw_i 59 (by decide +kernel) rfl, by decide +kernel, by decide +kernel, by decide +kernel⟩
theorem lk_X0_81 : Cond.methodLink RX0 81 yX0_putResult ∈ gw := gw_i 565 (by decide +kernel) rfl
theorem iv_X0_putResult : Cond.instanceMethod yX0_putResult ∈ gw ∧ Cond.selects RX0 yX0_putResult yX0_putResult ∈ gw := ⟨gw_i 567 (by decide +kernel) rfl, gw_i 9 (by decide +kernel) rfl⟩
theorem fl_X0_63 : Cond.fieldLink RX0 63 (TX4 3).1 (TX4 3).2.1 (TX4 3).2.2.1 ∈ gw := gw_i 100 (by decide +kernel) rfl
theorem yk_X0_goIntoCalls : g_Y yX0_goIntoCalls cX0_goIntoCalls 7 (none : Option Jvm.ClassFile.FieldType) 3 := ⟨gw_i 529 (by decide +kernel) rfl, gw_i 59 (by decide +kernel) rfl, by decide +kernel, by decide +kernel, by decide +kernel⟩
theorem lk_X0_70 : Cond.methodLink RX0 70 yX0_goIntoCalls ∈ gw := gw_i 526 (by decide +kernel) rfl
theorem iv_X0_goIntoCalls : Cond.instanceMethod yX0_goIntoCalls ∈ gw ∧ Cond.selects RX0 yX0_goIntoCalls yX0_goIntoCalls ∈ gw := ⟨gw_i 528 (by decide +kernel) rfl, gw_i 4 (by decide +kernel) rfl⟩
theorem yk_X0_goOnFrom : g_Y yX0_goOnFrom cX0_goOnFrom 4 (none : Option Jvm.ClassFile.FieldType) 2 := ⟨gw_i 521 (by decide +kernel) rfl, gw_i 59 (by decide +kernel) rfl, by decide +kernel, by decide +kernel, by decide +kernel⟩
theorem lk_X0_50 : Cond.methodLink RX0 50 yX0_goOnFrom ∈ gw := gw_i 518 (by decide +kernel) rfl
theorem iv_X0_goOnFrom : Cond.instanceMethod yX0_goOnFrom ∈ gw ∧ Cond.selects RX0 yX0_goOnFrom yX0_goOnFrom ∈ gw := ⟨gw_i 520 (by decide +kernel) rfl, gw_i 3 (by decide +kernel) rfl⟩
theorem yk_X1_forget : g_Y yX1_forget cX1_forget 2 (none : Option Jvm.ClassFile.FieldType) 0 := ⟨gw_i 501 (by decide +kernel) rfl, gw_i 58 (by decide +kernel) rfl, by decide +kernel, by decide +kernel, by decide +kernel⟩
theorem lk_X0_38 : Cond.methodLink RX0 38 yX1_forget ∈ gw := gw_i 498 (by decide +kernel) rfl
theorem iv_X1_forget : Cond.instanceMethod yX1_forget ∈ gw ∧ Cond.selects RX1 yX1_forget yX1_forget ∈ gw := ⟨gw_i 499 (by decide +kernel) rfl, gw_i 500 (by decide +kernel) rfl⟩
abbrev w_X0_arriveAt (cI cZ cJ : ClassId) (a_t : Nat) (a_tp : Nat) (a_tp_lengths : Nat) (a_tk : Nat) (a_tk_comeTo : Nat) (a_tk_any : Nat) (a_tk_numbers : Nat) (a_tr : Nat) (a_tr_any : Nat) (a_tr_numbers : Nat) (a_t_isWaiting : Nat) (a_t_waiting : Nat) (a_tp_parameterCounts : Nat) (a_tp_fields : Nat) (a_tp_entries : Nat) (t_waitingCount : Int32) (tp_functionCount : Int32) (tp_entryCount : Int32) (tp_lengths : Nat → Int32) (tk_comeTo : Nat → Int32) (tk_any : Nat → Int32) (tk_numbers : Nat → Int32) (tr_any : Nat → Int32) (tr_numbers : Nat → Int32) (t_isWaiting : Nat → Int32) (t_waiting : Nat → Int32) : va_W := [(a_t, .inr (0, [.ref a_tp, .ref a_tk, .ref a_tr, .ref a_t_isWaiting, .ref a_t_waiting, .int t_waitingCount])), (a_tp, .inr (4, [.int tp_functionCount, .int tp_entryCount, .ref a_tp_parameterCounts, .ref a_tp_lengths, .ref a_tp_fields, .ref a_tp_entries])), (a_tp_lengths, .inl (cI, 12, .inl tp_lengths)), (a_tk, .inr (1, [.ref a_tk_comeTo, .ref a_tk_any, .ref a_tk_numbers])), (a_tk_comeTo, .inl (cZ, 204, .inl tk_comeTo)), (a_tk_any, .inl (cZ, 1224, .inl tk_any)), (a_tk_numbers, .inl (cI, 1224, .inl tk_numbers)), (a_tr, .inr (5, [.ref a_tr_any, .ref a_tr_numbers])), (a_tr_any, .inl (cZ, 6, .inl tr_any)), (a_tr_numbers, .inl (cI, 6, .inl tr_numbers)), (a_t_isWaiting, .inl (cZ, 204, .inl t_isWaiting)), (a_t_waiting, .inl (cI, 204, .inl t_waiting))]
abbrev r_X0_arriveAt : Room := { frames := 1, cells := 0, slots := 0, locals := 26 }
def f_X0_arriveAt (N : Nat) (x1 : Int32) (x2 : Int32) (t_waitingCount : Int32) (tp_lengths : Nat → Int32) (tk_comeTo : Nat → Int32) (tk_any : Nat → Int32) (tk_numbers : Nat → Int32) (tr_any : Nat → Int32) (tr_numbers : Nat → Int32) (t_isWaiting : Nat → Int32) (t_waiting : Nat → Int32) : Option (Int32 × (Nat → Int32) × (Nat → Int32) × (Nat → Int32) × (Nat → Int32) × (Nat → Int32)) := (f_X4_placeOf x1 x2 tp_lengths).bind (fun o1 => (f_X1_join N o1 tk_comeTo tk_any tk_numbers tr_any tr_numbers).bind (fun o2 => if o2.1 = 0 then some (t_waitingCount, o2.2.1, o2.2.2.1, o2.2.2.2, t_isWaiting, t_waiting) else (g_rd 204 t_isWaiting o1).bind (fun v4 => if v4 = 0 then (g_wz 204 t_isWaiting o1 1).bind (fun s6 => (g_wr 204 t_waiting t_waitingCount o1).bind (fun s7 => some (t_waitingCount + 1, o2.2.1, o2.2.2.1, o2.2.2.2, s6, s7))) else some (t_waitingCount, o2.2.1, o2.2.2.1, o2.2.2.2, t_isWaiting, t_waiting))))
set_option maxHeartbeats 4000000 in
set_option maxRecDepth 100000 in
theorem k_X0_arriveAt (l : Launch) (tA : Nat) (dC : Nat → ClassId) (dI : Nat → Nat → Nat) (cI cZ cJ : ClassId) (a_t : Nat) (a_tp : Nat) (a_tp_lengths : Nat) (a_tk : Nat) (a_tk_comeTo : Nat) (a_tk_any : Nat) (a_tk_numbers : Nat) (a_tr : Nat) (a_tr_any : Nat) (a_tr_numbers : Nat) (a_t_isWaiting : Nat) (a_t_waiting : Nat) (a_tp_parameterCounts : Nat) (a_tp_fields : Nat) (a_tp_entries : Nat) (N : Nat) (x1 : Int32) (x2 : Int32) (t_waitingCount : Int32) (tp_functionCount : Int32) (tp_entryCount : Int32) (tp_lengths : Nat → Int32) (tk_comeTo : Nat → Int32) (tk_any : Nat → Int32) (tk_numbers : Nat → Int32) (tr_any : Nat → Int32) (tr_numbers : Nat → Int32) (t_isWaiting : Nat → Int32) (t_waiting : Nat → Int32) (out : Int32 × (Nat → Int32) × (Nat → Int32) × (Nat → Int32) × (Nat → Int32) × (Nat → Int32)) (hf : f_X0_arriveAt N x1 x2 t_waitingCount tp_lengths tk_comeTo tk_any tk_numbers tr_any tr_numbers t_isWaiting t_waiting = some out) : g_Mv l yX0_arriveAt cX0_arriveAt 4 (none : Option Jvm.ClassFile.FieldType) r_X0_arriveAt tA dC dI cI cZ cJ [.ref a_t, .int x1, .int x2] (w_X0_arriveAt cI cZ cJ a_t a_tp a_tp_lengths a_tk a_tk_comeTo a_tk_any a_tk_numbers a_tr a_tr_any a_tr_numbers a_t_isWaiting a_t_waiting a_tp_parameterCounts a_tp_fields a_tp_entries t_waitingCount tp_functionCount tp_entryCount tp_lengths tk_comeTo tk_any tk_numbers tr_any tr_numbers t_isWaiting t_waiting) (w_X0_arriveAt cI cZ cJ a_t a_tp a_tp_lengths a_tk a_tk_comeTo a_tk_any a_tk_numbers a_tr a_tr_any a_tr_numbers a_t_isWaiting a_t_waiting a_tp_parameterCounts a_tp_fields a_tp_entries out.1 tp_functionCount tp_entryCount tp_lengths out.2.1 out.2.2.1 out.2.2.2.1 tr_any tr_numbers out.2.2.2.2.1 out.2.2.2.2.2) := by
  unfold f_X0_arriveAt at hf
  refine ge_v (by decide) (Nat.le_of_ble_eq_true rfl) (fun p e s m below meth c A H locs ls hC hW hl => ?_)
  have hC : g_C p s m meth c _ cX0_arriveAt 4 (none : Option Jvm.ClassFile.FieldType) RX0 := hC
  have hx := hC.1
  have hb := hC.2.1
  have hown := hC.2.2.2.2.1
  have hts := hC.2.2.2.2.2.1
  have hl : lv_has ls 4 [(0, .ref a_t), (1, .int x1), (2, .int x2)] := hl
  refine lv_aload_n hx hb dX0_arriveAt_0 rfl (lv_at hl 0 rfl) ?_
  refine gs_get hC hW in_X0 0 0 rfl rfl (by decide) fl_X0_9 rfl dX0_arriveAt_1 ?_
  refine lv_iload_n hx hb dX0_arriveAt_4 rfl (lv_at hl 1 rfl) ?_
  refine lv_iload_n hx hb dX0_arriveAt_5 rfl (lv_at hl 2 rfl) ?_
  obtain ⟨o1, h1, hf⟩ := g_bnd hf
  refine gs_callVi (ws' := w_X0_arriveAt cI cZ cJ a_t a_tp a_tp_lengths a_tk a_tk_comeTo a_tk_any a_tk_numbers a_tr a_tr_any a_tr_numbers a_t_isWaiting a_t_waiting a_tp_parameterCounts a_tp_fields a_tp_entries t_waitingCount tp_functionCount tp_entryCount tp_lengths tk_comeTo tk_any tk_numbers tr_any tr_numbers t_isWaiting t_waiting) hC hW (k_X4_placeOf l tA dC dI cI cZ cJ a_tp a_tp_lengths a_tp_parameterCounts a_tp_fields a_tp_entries x1 x2 tp_functionCount tp_entryCount tp_lengths _ h1) yk_X4_placeOf lk_X0_53 iv_X4_placeOf ⟨rfl, rfl⟩ ⟨Nat.le_of_ble_eq_true rfl, Nat.le_of_ble_eq_true rfl⟩ hl.1 1 rfl rfl [1, 2] [0, 3, 4, 5, 6, 7, 8, 9, 10, 11] [0, 10, 11, 1, 2, 3, 4, 5, 6, 7, 8, 9] rfl rfl rfl rfl (by decide) rfl rfl rfl rfl (Nat.le_of_ble_eq_true rfl) dX0_arriveAt_6 ⟨Nat.zero_le _, Nat.zero_le _⟩ (fun H locs hW => ?_)
  refine lv_istore_n (lv' := [(3, .int o1), (0, .ref a_t), (1, .int x1), (2, .int x2)]) hx hb dX0_arriveAt_9 rfl hl (by decide) rfl (fun ls hl => ?_)
  refine lv_aload_n hx hb dX0_arriveAt_10 rfl (lv_at hl 1 rfl) ?_
  refine gs_get hC hW in_X0 0 1 rfl rfl (by decide) fl_X0_15 rfl dX0_arriveAt_11 ?_
  refine lv_iload_n hx hb dX0_arriveAt_14 rfl (lv_at hl 0 rfl) ?_
  refine lv_aload_n hx hb dX0_arriveAt_15 rfl (lv_at hl 1 rfl) ?_
  refine gs_get hC hW in_X0 0 2 rfl rfl (by decide) fl_X0_22 rfl dX0_arriveAt_16 ?_
  obtain ⟨o2, h2, hf⟩ := g_bnd hf
  refine gs_callVi (ws' := w_X0_arriveAt cI cZ cJ a_t a_tp a_tp_lengths a_tk a_tk_comeTo a_tk_any a_tk_numbers a_tr a_tr_any a_tr_numbers a_t_isWaiting a_t_waiting a_tp_parameterCounts a_tp_fields a_tp_entries t_waitingCount tp_functionCount tp_entryCount tp_lengths o2.2.1 o2.2.2.1 o2.2.2.2 tr_any tr_numbers t_isWaiting t_waiting) hC hW (k_X1_join l tA dC dI cI cZ cJ a_tk a_tk_comeTo a_tk_any a_tk_numbers a_tr a_tr_any a_tr_numbers N o1 tk_comeTo tk_any tk_numbers tr_any tr_numbers _ h2) yk_X1_join lk_X0_59 iv_X1_join ⟨rfl, rfl⟩ ⟨Nat.le_of_ble_eq_true rfl, Nat.le_of_ble_eq_true rfl⟩ hl.1 3 rfl rfl [3, 4, 5, 6, 7, 8, 9] [0, 1, 2, 10, 11] [0, 1, 2, 5, 6, 7, 8, 9, 10, 11, 3, 4] rfl rfl rfl rfl (by decide) rfl rfl rfl rfl (Nat.le_of_ble_eq_true rfl) dX0_arriveAt_19 ⟨Nat.zero_le _, Nat.zero_le _⟩ (fun H locs hW => ?_)
  refine lv_if_eq (tgt := 61) hx hb dX0_arriveAt_22 (by decide) (fun c3 => ?_) (fun c3 => ?_)
  · replace hf := (if_pos c3).symm.trans hf
    obtain rfl := Option.some.inj hf
    exact gs_rv hC hW rfl dX0_arriveAt_61
  · replace hf := (if_neg c3).symm.trans hf
    refine lv_aload_n hx hb dX0_arriveAt_25 rfl (lv_at hl 1 rfl) ?_
    refine gs_get hC hW in_X0 0 3 rfl rfl (by decide) fl_X0_26 rfl dX0_arriveAt_26 ?_
    refine lv_iload_n hx hb dX0_arriveAt_29 rfl (lv_at hl 0 rfl) ?_
    obtain ⟨v4, h4, hf⟩ := g_bnd hf
    refine gs_zald hC hW 10 h4 rfl dX0_arriveAt_30 ?_
    refine lv_if_ne (tgt := 61) hx hb dX0_arriveAt_31 (by decide) (fun c5 => ?_) (fun c5 => ?_)
    · replace hf := (if_neg c5).symm.trans hf
      obtain rfl := Option.some.inj hf
      exact gs_rv hC hW rfl dX0_arriveAt_61
    · replace hf := (if_pos c5).symm.trans hf
      refine lv_aload_n hx hb dX0_arriveAt_34 rfl (lv_at hl 1 rfl) ?_
      refine gs_get hC hW in_X0 0 3 rfl rfl (by decide) fl_X0_26 rfl dX0_arriveAt_35 ?_
      refine lv_iload_n hx hb dX0_arriveAt_38 rfl (lv_at hl 0 rfl) ?_
      refine lv_iconst (v := 1) hx hb dX0_arriveAt_39 (by decide) ?_
      obtain ⟨s6, h6, hf⟩ := g_bnd hf
      refine gs_zast (ws' := w_X0_arriveAt cI cZ cJ a_t a_tp a_tp_lengths a_tk a_tk_comeTo a_tk_any a_tk_numbers a_tr a_tr_any a_tr_numbers a_t_isWaiting a_t_waiting a_tp_parameterCounts a_tp_fields a_tp_entries t_waitingCount tp_functionCount tp_entryCount tp_lengths o2.2.1 o2.2.2.1 o2.2.2.2 tr_any tr_numbers s6 t_waiting) hC hW 10 h6 rfl rfl dX0_arriveAt_40 (fun H locs hW => ?_)
      refine lv_aload_n hx hb dX0_arriveAt_41 rfl (lv_at hl 1 rfl) ?_
      refine gs_get hC hW in_X0 0 4 rfl rfl (by decide) fl_X0_30 rfl dX0_arriveAt_42 ?_
      refine lv_aload_n hx hb dX0_arriveAt_45 rfl (lv_at hl 1 rfl) ?_
      refine gs_get hC hW in_X0 0 5 rfl rfl (by decide) fl_X0_34 rfl dX0_arriveAt_46 ?_
      refine lv_iload_n hx hb dX0_arriveAt_49 rfl (lv_at hl 0 rfl) ?_
      obtain ⟨s7, h7, hf⟩ := g_bnd hf
      refine gs_iast (ws' := w_X0_arriveAt cI cZ cJ a_t a_tp a_tp_lengths a_tk a_tk_comeTo a_tk_any a_tk_numbers a_tr a_tr_any a_tr_numbers a_t_isWaiting a_t_waiting a_tp_parameterCounts a_tp_fields a_tp_entries t_waitingCount tp_functionCount tp_entryCount tp_lengths o2.2.1 o2.2.2.1 o2.2.2.2 tr_any tr_numbers s6 s7) hC hW 11 h7 rfl rfl dX0_arriveAt_50 (fun H locs hW => ?_)
      refine lv_aload_n hx hb dX0_arriveAt_51 rfl (lv_at hl 1 rfl) ?_
      refine lv_dup hx hb dX0_arriveAt_52 rfl ?_
      refine gs_get hC hW in_X0 0 5 rfl rfl (by decide) fl_X0_34 rfl dX0_arriveAt_53 ?_
      refine lv_iconst (v := 1) hx hb dX0_arriveAt_56 (by decide) ?_
      refine lv_iadd hx hb dX0_arriveAt_57 ?_
      refine gs_put (ws' := w_X0_arriveAt cI cZ cJ a_t a_tp a_tp_lengths a_tk a_tk_comeTo a_tk_any a_tk_numbers a_tr a_tr_any a_tr_numbers a_t_isWaiting a_t_waiting a_tp_parameterCounts a_tp_fields a_tp_entries (t_waitingCount + 1) tp_functionCount tp_entryCount tp_lengths o2.2.1 o2.2.2.1 o2.2.2.2 tr_any tr_numbers s6 s7) hC hW in_X0 tyX0_ok nmX0 0 5 rfl rfl (by decide) fl_X0_34 rfl rfl rfl (Nat.le_of_ble_eq_true rfl) rfl dX0_arriveAt_58 (fun H locs hW => ?_)
      obtain rfl := Option.some.inj hf
      exact gs_rv hC hW rfl dX0_arriveAt_61

abbrev w_X0_takeOperand (cI cZ cJ : ClassId) (a_t : Nat) (a_tk : Nat) (a_tk_any : Nat) (a_tk_numbers : Nat) (a_tr : Nat) (a_tr_any : Nat) (a_tr_numbers : Nat) (a_tp : Nat) (a_t_isWaiting : Nat) (a_t_waiting : Nat) (a_tk_comeTo : Nat) (t_waitingCount : Int32) (tk_any : Nat → Int32) (tk_numbers : Nat → Int32) (tr_any : Nat → Int32) (tr_numbers : Nat → Int32) : va_W := [(a_t, .inr (0, [.ref a_tp, .ref a_tk, .ref a_tr, .ref a_t_isWaiting, .ref a_t_waiting, .int t_waitingCount])), (a_tk, .inr (1, [.ref a_tk_comeTo, .ref a_tk_any, .ref a_tk_numbers])), (a_tk_any, .inl (cZ, 1224, .inl tk_any)), (a_tk_numbers, .inl (cI, 1224, .inl tk_numbers)), (a_tr, .inr (5, [.ref a_tr_any, .ref a_tr_numbers])), (a_tr_any, .inl (cZ, 6, .inl tr_any)), (a_tr_numbers, .inl (cI, 6, .inl tr_numbers))]
abbrev r_X0_takeOperand : Room := { frames := 1, cells := 0, slots := 0, locals := 23 }
def f_X0_takeOperand (x1 : Int32) (x2 : Int32) (x3 : Int32) (tk_any : Nat → Int32) (tk_numbers : Nat → Int32) (tr_any : Nat → Int32) (tr_numbers : Nat → Int32) : Option ((Nat → Int32) × (Nat → Int32)) := (f_X1_hasNumber x2 x3 tk_any).bind (fun o1 => if o1 = 0 then (f_X5_putAny x1 tr_any tr_numbers).bind (fun o3 => some (o3.1, o3.2)) else (f_X1_numberOf x2 x3 tk_numbers).bind (fun o4 => (f_X5_putNumber x1 o4 tr_any tr_numbers).bind (fun o5 => some (o5.1, o5.2))))
set_option maxHeartbeats 4000000 in
set_option maxRecDepth 100000 in
theorem k_X0_takeOperand (l : Launch) (tA : Nat) (dC : Nat → ClassId) (dI : Nat → Nat → Nat) (cI cZ cJ : ClassId) (a_t : Nat) (a_tk : Nat) (a_tk_any : Nat) (a_tk_numbers : Nat) (a_tr : Nat) (a_tr_any : Nat) (a_tr_numbers : Nat) (a_tp : Nat) (a_t_isWaiting : Nat) (a_t_waiting : Nat) (a_tk_comeTo : Nat) (x1 : Int32) (x2 : Int32) (x3 : Int32) (t_waitingCount : Int32) (tk_any : Nat → Int32) (tk_numbers : Nat → Int32) (tr_any : Nat → Int32) (tr_numbers : Nat → Int32) (out : (Nat → Int32) × (Nat → Int32)) (hf : f_X0_takeOperand x1 x2 x3 tk_any tk_numbers tr_any tr_numbers = some out) : g_Mv l yX0_takeOperand cX0_takeOperand 4 (none : Option Jvm.ClassFile.FieldType) r_X0_takeOperand tA dC dI cI cZ cJ [.ref a_t, .int x1, .int x2, .int x3] (w_X0_takeOperand cI cZ cJ a_t a_tk a_tk_any a_tk_numbers a_tr a_tr_any a_tr_numbers a_tp a_t_isWaiting a_t_waiting a_tk_comeTo t_waitingCount tk_any tk_numbers tr_any tr_numbers) (w_X0_takeOperand cI cZ cJ a_t a_tk a_tk_any a_tk_numbers a_tr a_tr_any a_tr_numbers a_tp a_t_isWaiting a_t_waiting a_tk_comeTo t_waitingCount tk_any tk_numbers out.1 out.2) := by
  unfold f_X0_takeOperand at hf
  refine ge_v (by decide) (Nat.le_of_ble_eq_true rfl) (fun p e s m below meth c A H locs ls hC hW hl => ?_)
  have hC : g_C p s m meth c _ cX0_takeOperand 4 (none : Option Jvm.ClassFile.FieldType) RX0 := hC
  have hx := hC.1
  have hb := hC.2.1
  have hown := hC.2.2.2.2.1
  have hts := hC.2.2.2.2.2.1
  have hl : lv_has ls 4 [(0, .ref a_t), (1, .int x1), (2, .int x2), (3, .int x3)] := hl
  refine lv_aload_n hx hb dX0_takeOperand_0 rfl (lv_at hl 0 rfl) ?_
  refine gs_get hC hW in_X0 0 1 rfl rfl (by decide) fl_X0_15 rfl dX0_takeOperand_1 ?_
  refine lv_iload_n hx hb dX0_takeOperand_4 rfl (lv_at hl 2 rfl) ?_
  refine lv_iload_n hx hb dX0_takeOperand_5 rfl (lv_at hl 3 rfl) ?_
  obtain ⟨o1, h1, hf⟩ := g_bnd hf
  refine gs_callVi (ws' := w_X0_takeOperand cI cZ cJ a_t a_tk a_tk_any a_tk_numbers a_tr a_tr_any a_tr_numbers a_tp a_t_isWaiting a_t_waiting a_tk_comeTo t_waitingCount tk_any tk_numbers tr_any tr_numbers) hC hW (k_X1_hasNumber l tA dC dI cI cZ cJ a_tk a_tk_any a_tk_comeTo a_tk_numbers x2 x3 tk_any _ h1) yk_X1_hasNumber lk_X0_87 iv_X1_hasNumber ⟨rfl, rfl⟩ ⟨Nat.le_of_ble_eq_true rfl, Nat.le_of_ble_eq_true rfl⟩ hl.1 1 rfl rfl [1, 2] [0, 3, 4, 5, 6] [0, 5, 6, 1, 2, 3, 4] rfl rfl rfl rfl (by decide) rfl rfl rfl rfl (Nat.le_of_ble_eq_true rfl) dX0_takeOperand_6 ⟨Nat.zero_le _, Nat.zero_le _⟩ (fun H locs hW => ?_)
  refine lv_if_eq (tgt := 32) hx hb dX0_takeOperand_9 (by decide) (fun c2 => ?_) (fun c2 => ?_)
  · replace hf := (if_pos c2).symm.trans hf
    refine lv_aload_n hx hb dX0_takeOperand_32 rfl (lv_at hl 0 rfl) ?_
    refine gs_get hC hW in_X0 0 2 rfl rfl (by decide) fl_X0_22 rfl dX0_takeOperand_33 ?_
    refine lv_iload_n hx hb dX0_takeOperand_36 rfl (lv_at hl 1 rfl) ?_
    obtain ⟨o3, h3, hf⟩ := g_bnd hf
    refine gs_callVv (ws' := w_X0_takeOperand cI cZ cJ a_t a_tk a_tk_any a_tk_numbers a_tr a_tr_any a_tr_numbers a_tp a_t_isWaiting a_t_waiting a_tk_comeTo t_waitingCount tk_any tk_numbers o3.1 o3.2) hC hW (k_X5_putAny l tA dC dI cI cZ cJ a_tr a_tr_any a_tr_numbers x1 tr_any tr_numbers _ h3) yk_X5_putAny lk_X0_94 iv_X5_putAny ⟨rfl, rfl⟩ ⟨Nat.le_of_ble_eq_true rfl, Nat.le_of_ble_eq_true rfl⟩ hl.1 4 rfl rfl [4, 5, 6] [0, 1, 2, 3] [0, 1, 2, 3, 4, 5, 6] rfl rfl rfl rfl (by decide) rfl rfl rfl rfl (Nat.le_of_ble_eq_true rfl) dX0_takeOperand_37 ⟨Nat.zero_le _, Nat.zero_le _⟩ (fun H locs hW => ?_)
    obtain rfl := Option.some.inj hf
    exact gs_rv hC hW rfl dX0_takeOperand_40
  · replace hf := (if_neg c2).symm.trans hf
    refine lv_aload_n hx hb dX0_takeOperand_12 rfl (lv_at hl 0 rfl) ?_
    refine gs_get hC hW in_X0 0 2 rfl rfl (by decide) fl_X0_22 rfl dX0_takeOperand_13 ?_
    refine lv_iload_n hx hb dX0_takeOperand_16 rfl (lv_at hl 1 rfl) ?_
    refine lv_aload_n hx hb dX0_takeOperand_17 rfl (lv_at hl 0 rfl) ?_
    refine gs_get hC hW in_X0 0 1 rfl rfl (by decide) fl_X0_15 rfl dX0_takeOperand_18 ?_
    refine lv_iload_n hx hb dX0_takeOperand_21 rfl (lv_at hl 2 rfl) ?_
    refine lv_iload_n hx hb dX0_takeOperand_22 rfl (lv_at hl 3 rfl) ?_
    obtain ⟨o4, h4, hf⟩ := g_bnd hf
    refine gs_callVi (ws' := w_X0_takeOperand cI cZ cJ a_t a_tk a_tk_any a_tk_numbers a_tr a_tr_any a_tr_numbers a_tp a_t_isWaiting a_t_waiting a_tk_comeTo t_waitingCount tk_any tk_numbers tr_any tr_numbers) hC hW (k_X1_numberOf l tA dC dI cI cZ cJ a_tk a_tk_numbers a_tk_comeTo a_tk_any x2 x3 tk_numbers _ h4) yk_X1_numberOf lk_X0_91 iv_X1_numberOf ⟨rfl, rfl⟩ ⟨Nat.le_of_ble_eq_true rfl, Nat.le_of_ble_eq_true rfl⟩ hl.1 1 rfl rfl [1, 3] [0, 2, 4, 5, 6] [0, 5, 1, 6, 2, 3, 4] rfl rfl rfl rfl (by decide) rfl rfl rfl rfl (Nat.le_of_ble_eq_true rfl) dX0_takeOperand_23 ⟨Nat.zero_le _, Nat.zero_le _⟩ (fun H locs hW => ?_)
    obtain ⟨o5, h5, hf⟩ := g_bnd hf
    refine gs_callVv (ws' := w_X0_takeOperand cI cZ cJ a_t a_tk a_tk_any a_tk_numbers a_tr a_tr_any a_tr_numbers a_tp a_t_isWaiting a_t_waiting a_tk_comeTo t_waitingCount tk_any tk_numbers o5.1 o5.2) hC hW (k_X5_putNumber l tA dC dI cI cZ cJ a_tr a_tr_any a_tr_numbers x1 o4 tr_any tr_numbers _ h5) yk_X5_putNumber lk_X0_43 iv_X5_putNumber ⟨rfl, rfl⟩ ⟨Nat.le_of_ble_eq_true rfl, Nat.le_of_ble_eq_true rfl⟩ hl.1 4 rfl rfl [4, 5, 6] [0, 1, 2, 3] [0, 1, 2, 3, 4, 5, 6] rfl rfl rfl rfl (by decide) rfl rfl rfl rfl (Nat.le_of_ble_eq_true rfl) dX0_takeOperand_26 ⟨Nat.zero_le _, Nat.zero_le _⟩ (fun H locs hW => ?_)
    refine lv_goto (tgt := 40) hx hb dX0_takeOperand_29 (by decide) ?_
    obtain rfl := Option.some.inj hf
    exact gs_rv hC hW rfl dX0_takeOperand_40

abbrev w_X0_goInto (cI cZ cJ : ClassId) (a_t : Nat) (a_tp : Nat) (a_tp_parameterCounts : Nat) (a_tp_lengths : Nat) (a_tp_fields : Nat) (a_tk : Nat) (a_tk_comeTo : Nat) (a_tk_any : Nat) (a_tk_numbers : Nat) (a_tr : Nat) (a_tr_any : Nat) (a_tr_numbers : Nat) (a_t_isWaiting : Nat) (a_t_waiting : Nat) (a_tp_entries : Nat) (t_waitingCount : Int32) (tp_functionCount : Int32) (tp_entryCount : Int32) (tp_parameterCounts : Nat → Int32) (tp_lengths : Nat → Int32) (tp_fields : Nat → Int32) (tk_comeTo : Nat → Int32) (tk_any : Nat → Int32) (tk_numbers : Nat → Int32) (tr_any : Nat → Int32) (tr_numbers : Nat → Int32) (t_isWaiting : Nat → Int32) (t_waiting : Nat → Int32) : va_W := [(a_t, .inr (0, [.ref a_tp, .ref a_tk, .ref a_tr, .ref a_t_isWaiting, .ref a_t_waiting, .int t_waitingCount])), (a_tp, .inr (4, [.int tp_functionCount, .int tp_entryCount, .ref a_tp_parameterCounts, .ref a_tp_lengths, .ref a_tp_fields, .ref a_tp_entries])), (a_tp_parameterCounts, .inl (cI, 12, .inl tp_parameterCounts)), (a_tp_lengths, .inl (cI, 12, .inl tp_lengths)), (a_tp_fields, .inl (cI, 1152, .inl tp_fields)), (a_tk, .inr (1, [.ref a_tk_comeTo, .ref a_tk_any, .ref a_tk_numbers])), (a_tk_comeTo, .inl (cZ, 204, .inl tk_comeTo)), (a_tk_any, .inl (cZ, 1224, .inl tk_any)), (a_tk_numbers, .inl (cI, 1224, .inl tk_numbers)), (a_tr, .inr (5, [.ref a_tr_any, .ref a_tr_numbers])), (a_tr_any, .inl (cZ, 6, .inl tr_any)), (a_tr_numbers, .inl (cI, 6, .inl tr_numbers)), (a_t_isWaiting, .inl (cZ, 204, .inl t_isWaiting)), (a_t_waiting, .inl (cI, 204, .inl t_waiting))]
abbrev r_X0_goInto : Room := { frames := 2, cells := 0, slots := 0, locals := 49 }
def f_X0_goInto_14 (N : Nat) (x1 : Int32) (x2 : Int32) (x3 : Int32) (tp_parameterCounts : Nat → Int32) (tp_lengths : Nat → Int32) (tp_fields : Nat → Int32) : Nat → Int32 → Int32 → Int32 → (Nat → Int32) → (Nat → Int32) → (Nat → Int32) → (Nat → Int32) → (Nat → Int32) → (Nat → Int32) → (Nat → Int32) → Option (Int32 × (Nat → Int32) × (Nat → Int32) × (Nat → Int32) × (Nat → Int32) × (Nat → Int32) × (Nat → Int32) × (Nat → Int32))
  | 0, _, _, _, _, _, _, _, _, _, _ => none
  | n + 1, x4, x5, t_waitingCount, tk_comeTo, tk_any, tk_numbers, tr_any, tr_numbers, t_isWaiting, t_waiting => if 6 ≤ x5 then (f_X0_arriveAt N x3 0 t_waitingCount tp_lengths tk_comeTo tk_any tk_numbers tr_any tr_numbers t_isWaiting t_waiting).bind (fun o2 => some (o2.1, o2.2.1, o2.2.2.1, o2.2.2.2.1, tr_any, tr_numbers, o2.2.2.2.2.1, o2.2.2.2.2.2)) else (g_rd 12 tp_parameterCounts x3).bind (fun v3 => if v3 ≤ x5 then (f_X5_putNumber x5 0 tr_any tr_numbers).bind (fun o5 => f_X0_goInto_14 N x1 x2 x3 tp_parameterCounts tp_lengths tp_fields n x4 (x5 + 1) t_waitingCount tk_comeTo tk_any tk_numbers o5.1 o5.2 t_isWaiting t_waiting) else (f_X4_fieldOf x1 x2 (3 + x5) tp_fields).bind (fun o6 => (f_X0_takeOperand x5 x4 o6 tk_any tk_numbers tr_any tr_numbers).bind (fun o7 => f_X0_goInto_14 N x1 x2 x3 tp_parameterCounts tp_lengths tp_fields n x4 (x5 + 1) t_waitingCount tk_comeTo tk_any tk_numbers o7.1 o7.2 t_isWaiting t_waiting)))
set_option maxHeartbeats 4000000 in
set_option maxRecDepth 100000 in
theorem b_X0_goInto_14 {p : Program} {l : Launch} {e : Env} {s : State} {m : MethodId} {args : Array Value} {below : List Frame} {meth : Method} {c : Code} {tA : Nat} {dC : Nat → ClassId} {dI : Nat → Nat → Nat} {cI cZ cJ : ClassId} {A : Nat → Prop} {a_t : Nat} {a_tp : Nat} {a_tp_parameterCounts : Nat} {a_tp_lengths : Nat} {a_tp_fields : Nat} {a_tk : Nat} {a_tk_comeTo : Nat} {a_tk_any : Nat} {a_tk_numbers : Nat} {a_tr : Nat} {a_tr_any : Nat} {a_tr_numbers : Nat} {a_t_isWaiting : Nat} {a_t_waiting : Nat} {a_tp_entries : Nat} {x1 : Int32} {x2 : Int32} {x3 : Int32} {tp_parameterCounts : Nat → Int32} {tp_lengths : Nat → Int32} {tp_fields : Nat → Int32} {tp_functionCount : Int32} {tp_entryCount : Int32} {N : Nat} (hC : g_C p s m meth c args cX0_goInto 6 (none : Option Jvm.ClassFile.FieldType) RX0) :
    ∀ (n : Nat) (x4 : Int32) (x5 : Int32) (t_waitingCount : Int32) (tk_comeTo : Nat → Int32) (tk_any : Nat → Int32) (tk_numbers : Nat → Int32) (tr_any : Nat → Int32) (tr_numbers : Nat → Int32) (t_isWaiting : Nat → Int32) (t_waiting : Nat → Int32) (out : Int32 × (Nat → Int32) × (Nat → Int32) × (Nat → Int32) × (Nat → Int32) × (Nat → Int32) × (Nat → Int32) × (Nat → Int32)), f_X0_goInto_14 N x1 x2 x3 tp_parameterCounts tp_lengths tp_fields n x4 x5 t_waitingCount tk_comeTo tk_any tk_numbers tr_any tr_numbers t_isWaiting t_waiting = some out → ∀ (H : Heap) (locs : List Loc) (ls : Array Slot), g_W tA dC dI cI cZ cJ A s H locs (w_X0_goInto cI cZ cJ a_t a_tp a_tp_parameterCounts a_tp_lengths a_tp_fields a_tk a_tk_comeTo a_tk_any a_tk_numbers a_tr a_tr_any a_tr_numbers a_t_isWaiting a_t_waiting a_tp_entries t_waitingCount tp_functionCount tp_entryCount tp_parameterCounts tp_lengths tp_fields tk_comeTo tk_any tk_numbers tr_any tr_numbers t_isWaiting t_waiting) → lv_has ls 6 [(0, .ref a_t), (1, .int x1), (2, .int x2), (3, .int x3), (4, .int x4), (5, .int x5)] → W p l e r_X0_goInto s m args below meth c H locs 0 0 (MQ below (g_Qv dC dI cI cZ cJ A (w_X0_goInto cI cZ cJ a_t a_tp a_tp_parameterCounts a_tp_lengths a_tp_fields a_tk a_tk_comeTo a_tk_any a_tk_numbers a_tr a_tr_any a_tr_numbers a_t_isWaiting a_t_waiting a_tp_entries out.1 tp_functionCount tp_entryCount tp_parameterCounts tp_lengths tp_fields out.2.1 out.2.2.1 out.2.2.2.1 out.2.2.2.2.1 out.2.2.2.2.2.1 out.2.2.2.2.2.2.1 out.2.2.2.2.2.2.2)) args s 0 0 A) (F0 m 14 ls []) := by
  have hx := hC.1
  have hb := hC.2.1
  have hown := hC.2.2.2.2.1
  have hts := hC.2.2.2.2.2.1
  intro n
  induction n with
  | zero =>
    intro x4 x5 t_waitingCount tk_comeTo tk_any tk_numbers tr_any tr_numbers t_isWaiting t_waiting out hf
    exact g_no hf
  | succ n ih =>
    intro x4 x5 t_waitingCount tk_comeTo tk_any tk_numbers tr_any tr_numbers t_isWaiting t_waiting out hf H locs ls hW hl
    refine lv_iload hx hb dX0_goInto_14 (lv_at hl 5 rfl) ?_
    refine lv_bipush (v := 6) hx hb dX0_goInto_16 (by decide) ?_
    refine lv_icmp_ge (tgt := 75) hx hb dX0_goInto_18 (by decide) (fun c1 => ?_) (fun c1 => ?_)
    · replace hf := (if_pos c1).symm.trans hf
      refine lv_aload_n hx hb dX0_goInto_75 rfl (lv_at hl 0 rfl) ?_
      refine lv_iload_n hx hb dX0_goInto_76 rfl (lv_at hl 3 rfl) ?_
      refine lv_iconst (v := 0) hx hb dX0_goInto_77 (by decide) ?_
      obtain ⟨o2, h2, hf⟩ := g_bnd hf
      refine gs_callVv (ws' := w_X0_goInto cI cZ cJ a_t a_tp a_tp_parameterCounts a_tp_lengths a_tp_fields a_tk a_tk_comeTo a_tk_any a_tk_numbers a_tr a_tr_any a_tr_numbers a_t_isWaiting a_t_waiting a_tp_entries o2.1 tp_functionCount tp_entryCount tp_parameterCounts tp_lengths tp_fields o2.2.1 o2.2.2.1 o2.2.2.2.1 tr_any tr_numbers o2.2.2.2.2.1 o2.2.2.2.2.2) hC hW (k_X0_arriveAt l tA dC dI cI cZ cJ a_t a_tp a_tp_lengths a_tk a_tk_comeTo a_tk_any a_tk_numbers a_tr a_tr_any a_tr_numbers a_t_isWaiting a_t_waiting a_tp_parameterCounts a_tp_fields a_tp_entries N x3 0 t_waitingCount tp_functionCount tp_entryCount tp_lengths tk_comeTo tk_any tk_numbers tr_any tr_numbers t_isWaiting t_waiting _ h2) yk_X0_arriveAt lk_X0_47 iv_X0_arriveAt ⟨rfl, rfl⟩ ⟨Nat.le_of_ble_eq_true rfl, Nat.le_of_ble_eq_true rfl⟩ hl.1 0 rfl rfl [0, 1, 3, 5, 6, 7, 8, 9, 10, 11, 12, 13] [2, 4] [2, 3, 0, 4, 1, 5, 6, 7, 8, 9, 10, 11, 12, 13] rfl rfl rfl rfl (by decide) rfl rfl rfl rfl (Nat.le_of_ble_eq_true rfl) dX0_goInto_78 ⟨Nat.zero_le _, Nat.zero_le _⟩ (fun H locs hW => ?_)
      obtain rfl := Option.some.inj hf
      exact gs_rv hC hW rfl dX0_goInto_81
    · replace hf := (if_neg c1).symm.trans hf
      refine lv_iload hx hb dX0_goInto_21 (lv_at hl 5 rfl) ?_
      refine lv_aload_n hx hb dX0_goInto_23 rfl (lv_at hl 0 rfl) ?_
      refine gs_get hC hW in_X0 0 0 rfl rfl (by decide) fl_X0_9 rfl dX0_goInto_24 ?_
      refine gs_get hC hW in_X4 1 2 rfl rfl (by decide) fl_X0_118 rfl dX0_goInto_27 ?_
      refine lv_iload_n hx hb dX0_goInto_30 rfl (lv_at hl 3 rfl) ?_
      obtain ⟨v3, h3, hf⟩ := g_bnd hf
      refine gs_iald hC hW 2 h3 rfl dX0_goInto_31 ?_
      refine lv_icmp_ge (tgt := 59) hx hb dX0_goInto_32 (by decide) (fun c4 => ?_) (fun c4 => ?_)
      · replace hf := (if_pos c4).symm.trans hf
        refine lv_aload_n hx hb dX0_goInto_59 rfl (lv_at hl 0 rfl) ?_
        refine gs_get hC hW in_X0 0 2 rfl rfl (by decide) fl_X0_22 rfl dX0_goInto_60 ?_
        refine lv_iload hx hb dX0_goInto_63 (lv_at hl 5 rfl) ?_
        refine lv_iconst (v := 0) hx hb dX0_goInto_65 (by decide) ?_
        obtain ⟨o5, h5, hf⟩ := g_bnd hf
        refine gs_callVv (ws' := w_X0_goInto cI cZ cJ a_t a_tp a_tp_parameterCounts a_tp_lengths a_tp_fields a_tk a_tk_comeTo a_tk_any a_tk_numbers a_tr a_tr_any a_tr_numbers a_t_isWaiting a_t_waiting a_tp_entries t_waitingCount tp_functionCount tp_entryCount tp_parameterCounts tp_lengths tp_fields tk_comeTo tk_any tk_numbers o5.1 o5.2 t_isWaiting t_waiting) hC hW (k_X5_putNumber l tA dC dI cI cZ cJ a_tr a_tr_any a_tr_numbers x5 0 tr_any tr_numbers _ h5) yk_X5_putNumber lk_X0_43 iv_X5_putNumber ⟨rfl, rfl⟩ ⟨Nat.le_of_ble_eq_true rfl, Nat.le_of_ble_eq_true rfl⟩ hl.1 9 rfl rfl [9, 10, 11] [0, 1, 2, 3, 4, 5, 6, 7, 8, 12, 13] [0, 1, 2, 3, 4, 5, 6, 7, 8, 11, 12, 13, 9, 10] rfl rfl rfl rfl (by decide) rfl rfl rfl rfl (Nat.le_of_ble_eq_true rfl) dX0_goInto_66 ⟨Nat.zero_le _, Nat.zero_le _⟩ (fun H locs hW => ?_)
        refine lv_iinc (v := x5 + 1) (lv' := [(5, .int (x5 + 1)), (0, .ref a_t), (1, .int x1), (2, .int x2), (3, .int x3), (4, .int x4)]) hx hb dX0_goInto_69 hl (k := 5) rfl rfl (by decide) rfl (fun ls hl => ?_)
        refine lv_goto (tgt := 14) hx hb dX0_goInto_72 (by decide) ?_
        exact ih _ _ _ _ _ _ _ _ _ _ _ hf _ _ _ hW (lv_sub hl [1, 2, 3, 4, 5, 0] rfl)
      · replace hf := (if_neg c4).symm.trans hf
        refine lv_aload_n hx hb dX0_goInto_35 rfl (lv_at hl 0 rfl) ?_
        refine lv_iload hx hb dX0_goInto_36 (lv_at hl 5 rfl) ?_
        refine lv_iload hx hb dX0_goInto_38 (lv_at hl 4 rfl) ?_
        refine lv_aload_n hx hb dX0_goInto_40 rfl (lv_at hl 0 rfl) ?_
        refine gs_get hC hW in_X0 0 0 rfl rfl (by decide) fl_X0_9 rfl dX0_goInto_41 ?_
        refine lv_iload_n hx hb dX0_goInto_44 rfl (lv_at hl 1 rfl) ?_
        refine lv_iload_n hx hb dX0_goInto_45 rfl (lv_at hl 2 rfl) ?_
        refine lv_iconst (v := 3) hx hb dX0_goInto_46 (by decide) ?_
        refine lv_iload hx hb dX0_goInto_47 (lv_at hl 5 rfl) ?_
        refine lv_iadd hx hb dX0_goInto_49 ?_
        obtain ⟨o6, h6, hf⟩ := g_bnd hf
        refine gs_callVi (ws' := w_X0_goInto cI cZ cJ a_t a_tp a_tp_parameterCounts a_tp_lengths a_tp_fields a_tk a_tk_comeTo a_tk_any a_tk_numbers a_tr a_tr_any a_tr_numbers a_t_isWaiting a_t_waiting a_tp_entries t_waitingCount tp_functionCount tp_entryCount tp_parameterCounts tp_lengths tp_fields tk_comeTo tk_any tk_numbers tr_any tr_numbers t_isWaiting t_waiting) hC hW (k_X4_fieldOf l tA dC dI cI cZ cJ a_tp a_tp_fields a_tp_parameterCounts a_tp_lengths a_tp_entries x1 x2 (3 + x5) tp_functionCount tp_entryCount tp_fields _ h6) yk_X4_fieldOf lk_X0_66 iv_X4_fieldOf ⟨rfl, rfl⟩ ⟨Nat.le_of_ble_eq_true rfl, Nat.le_of_ble_eq_true rfl⟩ hl.1 1 rfl rfl [1, 4] [0, 2, 3, 5, 6, 7, 8, 9, 10, 11, 12, 13] [0, 12, 1, 2, 13, 3, 4, 5, 6, 7, 8, 9, 10, 11] rfl rfl rfl rfl (by decide) rfl rfl rfl rfl (Nat.le_of_ble_eq_true rfl) dX0_goInto_50 ⟨Nat.zero_le _, Nat.zero_le _⟩ (fun H locs hW => ?_)
        obtain ⟨o7, h7, hf⟩ := g_bnd hf
        refine gs_callVv (ws' := w_X0_goInto cI cZ cJ a_t a_tp a_tp_parameterCounts a_tp_lengths a_tp_fields a_tk a_tk_comeTo a_tk_any a_tk_numbers a_tr a_tr_any a_tr_numbers a_t_isWaiting a_t_waiting a_tp_entries t_waitingCount tp_functionCount tp_entryCount tp_parameterCounts tp_lengths tp_fields tk_comeTo tk_any tk_numbers o7.1 o7.2 t_isWaiting t_waiting) hC hW (k_X0_takeOperand l tA dC dI cI cZ cJ a_t a_tk a_tk_any a_tk_numbers a_tr a_tr_any a_tr_numbers a_tp a_t_isWaiting a_t_waiting a_tk_comeTo x5 x4 o6 t_waitingCount tk_any tk_numbers tr_any tr_numbers _ h7) yk_X0_takeOperand lk_X0_84 iv_X0_takeOperand ⟨rfl, rfl⟩ ⟨Nat.le_of_ble_eq_true rfl, Nat.le_of_ble_eq_true rfl⟩ hl.1 0 rfl rfl [0, 5, 7, 8, 9, 10, 11] [1, 2, 3, 4, 6, 12, 13] [7, 0, 1, 2, 3, 8, 4, 9, 10, 11, 12, 13, 5, 6] rfl rfl rfl rfl (by decide) rfl rfl rfl rfl (Nat.le_of_ble_eq_true rfl) dX0_goInto_53 ⟨Nat.zero_le _, Nat.zero_le _⟩ (fun H locs hW => ?_)
        refine lv_goto (tgt := 69) hx hb dX0_goInto_56 (by decide) ?_
        refine lv_iinc (v := x5 + 1) (lv' := [(5, .int (x5 + 1)), (0, .ref a_t), (1, .int x1), (2, .int x2), (3, .int x3), (4, .int x4)]) hx hb dX0_goInto_69 hl (k := 5) rfl rfl (by decide) rfl (fun ls hl => ?_)
        refine lv_goto (tgt := 14) hx hb dX0_goInto_72 (by decide) ?_
        exact ih _ _ _ _ _ _ _ _ _ _ _ hf _ _ _ hW (lv_sub hl [1, 2, 3, 4, 5, 0] rfl)
def f_X0_goInto (N : Nat) (x1 : Int32) (x2 : Int32) (x3 : Int32) (t_waitingCount : Int32) (tp_parameterCounts : Nat → Int32) (tp_lengths : Nat → Int32) (tp_fields : Nat → Int32) (tk_comeTo : Nat → Int32) (tk_any : Nat → Int32) (tk_numbers : Nat → Int32) (tr_any : Nat → Int32) (tr_numbers : Nat → Int32) (t_isWaiting : Nat → Int32) (t_waiting : Nat → Int32) : Option (Int32 × (Nat → Int32) × (Nat → Int32) × (Nat → Int32) × (Nat → Int32) × (Nat → Int32) × (Nat → Int32) × (Nat → Int32)) := (f_X4_placeOf x1 x2 tp_lengths).bind (fun o8 => f_X0_goInto_14 N x1 x2 x3 tp_parameterCounts tp_lengths tp_fields N o8 0 t_waitingCount tk_comeTo tk_any tk_numbers tr_any tr_numbers t_isWaiting t_waiting)
set_option maxHeartbeats 4000000 in
set_option maxRecDepth 100000 in
theorem k_X0_goInto (l : Launch) (tA : Nat) (dC : Nat → ClassId) (dI : Nat → Nat → Nat) (cI cZ cJ : ClassId) (a_t : Nat) (a_tp : Nat) (a_tp_parameterCounts : Nat) (a_tp_lengths : Nat) (a_tp_fields : Nat) (a_tk : Nat) (a_tk_comeTo : Nat) (a_tk_any : Nat) (a_tk_numbers : Nat) (a_tr : Nat) (a_tr_any : Nat) (a_tr_numbers : Nat) (a_t_isWaiting : Nat) (a_t_waiting : Nat) (a_tp_entries : Nat) (N : Nat) (x1 : Int32) (x2 : Int32) (x3 : Int32) (t_waitingCount : Int32) (tp_functionCount : Int32) (tp_entryCount : Int32) (tp_parameterCounts : Nat → Int32) (tp_lengths : Nat → Int32) (tp_fields : Nat → Int32) (tk_comeTo : Nat → Int32) (tk_any : Nat → Int32) (tk_numbers : Nat → Int32) (tr_any : Nat → Int32) (tr_numbers : Nat → Int32) (t_isWaiting : Nat → Int32) (t_waiting : Nat → Int32) (out : Int32 × (Nat → Int32) × (Nat → Int32) × (Nat → Int32) × (Nat → Int32) × (Nat → Int32) × (Nat → Int32) × (Nat → Int32)) (hf : f_X0_goInto N x1 x2 x3 t_waitingCount tp_parameterCounts tp_lengths tp_fields tk_comeTo tk_any tk_numbers tr_any tr_numbers t_isWaiting t_waiting = some out) : g_Mv l yX0_goInto cX0_goInto 6 (none : Option Jvm.ClassFile.FieldType) r_X0_goInto tA dC dI cI cZ cJ [.ref a_t, .int x1, .int x2, .int x3] (w_X0_goInto cI cZ cJ a_t a_tp a_tp_parameterCounts a_tp_lengths a_tp_fields a_tk a_tk_comeTo a_tk_any a_tk_numbers a_tr a_tr_any a_tr_numbers a_t_isWaiting a_t_waiting a_tp_entries t_waitingCount tp_functionCount tp_entryCount tp_parameterCounts tp_lengths tp_fields tk_comeTo tk_any tk_numbers tr_any tr_numbers t_isWaiting t_waiting) (w_X0_goInto cI cZ cJ a_t a_tp a_tp_parameterCounts a_tp_lengths a_tp_fields a_tk a_tk_comeTo a_tk_any a_tk_numbers a_tr a_tr_any a_tr_numbers a_t_isWaiting a_t_waiting a_tp_entries out.1 tp_functionCount tp_entryCount tp_parameterCounts tp_lengths tp_fields out.2.1 out.2.2.1 out.2.2.2.1 out.2.2.2.2.1 out.2.2.2.2.2.1 out.2.2.2.2.2.2.1 out.2.2.2.2.2.2.2) := by
  unfold f_X0_goInto at hf
  refine ge_v (by decide) (Nat.le_of_ble_eq_true rfl) (fun p e s m below meth c A H locs ls hC hW hl => ?_)
  have hC : g_C p s m meth c _ cX0_goInto 6 (none : Option Jvm.ClassFile.FieldType) RX0 := hC
  have hx := hC.1
  have hb := hC.2.1
  have hown := hC.2.2.2.2.1
  have hts := hC.2.2.2.2.2.1
  have hl : lv_has ls 6 [(0, .ref a_t), (1, .int x1), (2, .int x2), (3, .int x3)] := hl
  refine lv_aload_n hx hb dX0_goInto_0 rfl (lv_at hl 0 rfl) ?_
  refine gs_get hC hW in_X0 0 0 rfl rfl (by decide) fl_X0_9 rfl dX0_goInto_1 ?_
  refine lv_iload_n hx hb dX0_goInto_4 rfl (lv_at hl 1 rfl) ?_
  refine lv_iload_n hx hb dX0_goInto_5 rfl (lv_at hl 2 rfl) ?_
  obtain ⟨o8, h8, hf⟩ := g_bnd hf
  refine gs_callVi (ws' := w_X0_goInto cI cZ cJ a_t a_tp a_tp_parameterCounts a_tp_lengths a_tp_fields a_tk a_tk_comeTo a_tk_any a_tk_numbers a_tr a_tr_any a_tr_numbers a_t_isWaiting a_t_waiting a_tp_entries t_waitingCount tp_functionCount tp_entryCount tp_parameterCounts tp_lengths tp_fields tk_comeTo tk_any tk_numbers tr_any tr_numbers t_isWaiting t_waiting) hC hW (k_X4_placeOf l tA dC dI cI cZ cJ a_tp a_tp_lengths a_tp_parameterCounts a_tp_fields a_tp_entries x1 x2 tp_functionCount tp_entryCount tp_lengths _ h8) yk_X4_placeOf lk_X0_53 iv_X4_placeOf ⟨rfl, rfl⟩ ⟨Nat.le_of_ble_eq_true rfl, Nat.le_of_ble_eq_true rfl⟩ hl.1 1 rfl rfl [1, 3] [0, 2, 4, 5, 6, 7, 8, 9, 10, 11, 12, 13] [0, 12, 1, 13, 2, 3, 4, 5, 6, 7, 8, 9, 10, 11] rfl rfl rfl rfl (by decide) rfl rfl rfl rfl (Nat.le_of_ble_eq_true rfl) dX0_goInto_6 ⟨Nat.zero_le _, Nat.zero_le _⟩ (fun H locs hW => ?_)
  refine lv_istore (lv' := [(4, .int o8), (0, .ref a_t), (1, .int x1), (2, .int x2), (3, .int x3)]) hx hb dX0_goInto_9 hl (by decide) rfl (fun ls hl => ?_)
  refine lv_iconst (v := 0) hx hb dX0_goInto_11 (by decide) ?_
  refine lv_istore (lv' := [(5, .int 0), (4, .int o8), (0, .ref a_t), (1, .int x1), (2, .int x2), (3, .int x3)]) hx hb dX0_goInto_12 hl (by decide) rfl (fun ls hl => ?_)
  exact b_X0_goInto_14 hC N _ _ _ _ _ _ _ _ _ _ _ hf _ _ _ hW (lv_sub hl [2, 3, 4, 5, 1, 0] rfl)

abbrev w_X0_goIntoCalls (cI cZ cJ : ClassId) (a_t : Nat) (a_tp : Nat) (a_tp_parameterCounts : Nat) (a_tp_lengths : Nat) (a_tp_fields : Nat) (a_tp_entries : Nat) (a_tk : Nat) (a_tk_comeTo : Nat) (a_tk_any : Nat) (a_tk_numbers : Nat) (a_tr : Nat) (a_tr_any : Nat) (a_tr_numbers : Nat) (a_t_isWaiting : Nat) (a_t_waiting : Nat) (t_waitingCount : Int32) (tp_functionCount : Int32) (tp_entryCount : Int32) (tp_parameterCounts : Nat → Int32) (tp_lengths : Nat → Int32) (tp_fields : Nat → Int32) (tp_entries : Nat → Int32) (tk_comeTo : Nat → Int32) (tk_any : Nat → Int32) (tk_numbers : Nat → Int32) (tr_any : Nat → Int32) (tr_numbers : Nat → Int32) (t_isWaiting : Nat → Int32) (t_waiting : Nat → Int32) : va_W := [(a_t, .inr (0, [.ref a_tp, .ref a_tk, .ref a_tr, .ref a_t_isWaiting, .ref a_t_waiting, .int t_waitingCount])), (a_tp, .inr (4, [.int tp_functionCount, .int tp_entryCount, .ref a_tp_parameterCounts, .ref a_tp_lengths, .ref a_tp_fields, .ref a_tp_entries])), (a_tp_parameterCounts, .inl (cI, 12, .inl tp_parameterCounts)), (a_tp_lengths, .inl (cI, 12, .inl tp_lengths)), (a_tp_fields, .inl (cI, 1152, .inl tp_fields)), (a_tp_entries, .inl (cI, 4, .inl tp_entries)), (a_tk, .inr (1, [.ref a_tk_comeTo, .ref a_tk_any, .ref a_tk_numbers])), (a_tk_comeTo, .inl (cZ, 204, .inl tk_comeTo)), (a_tk_any, .inl (cZ, 1224, .inl tk_any)), (a_tk_numbers, .inl (cI, 1224, .inl tk_numbers)), (a_tr, .inr (5, [.ref a_tr_any, .ref a_tr_numbers])), (a_tr_any, .inl (cZ, 6, .inl tr_any)), (a_tr_numbers, .inl (cI, 6, .inl tr_numbers)), (a_t_isWaiting, .inl (cZ, 204, .inl t_isWaiting)), (a_t_waiting, .inl (cI, 204, .inl t_waiting))]
abbrev r_X0_goIntoCalls : Room := { frames := 3, cells := 0, slots := 0, locals := 74 }
def f_X0_goIntoCalls_55 (N : Nat) (x1 : Int32) (x2 : Int32) (x3 : Int32) (tp_entryCount : Int32) (tp_parameterCounts : Nat → Int32) (tp_lengths : Nat → Int32) (tp_fields : Nat → Int32) (tp_entries : Nat → Int32) : Nat → Int32 → Int32 → (Nat → Int32) → (Nat → Int32) → (Nat → Int32) → (Nat → Int32) → (Nat → Int32) → (Nat → Int32) → (Nat → Int32) → Option (Int32 × (Nat → Int32) × (Nat → Int32) × (Nat → Int32) × (Nat → Int32) × (Nat → Int32) × (Nat → Int32) × (Nat → Int32))
  | 0, _, _, _, _, _, _, _, _, _ => none
  | n + 1, x6, t_waitingCount, tk_comeTo, tk_any, tk_numbers, tr_any, tr_numbers, t_isWaiting, t_waiting => if tp_entryCount ≤ x6 then some (t_waitingCount, tk_comeTo, tk_any, tk_numbers, tr_any, tr_numbers, t_isWaiting, t_waiting) else (g_rd 4 tp_entries x6).bind (fun v2 => (f_X0_goInto N x1 x2 v2 t_waitingCount tp_parameterCounts tp_lengths tp_fields tk_comeTo tk_any tk_numbers tr_any tr_numbers t_isWaiting t_waiting).bind (fun o3 => f_X0_goIntoCalls_55 N x1 x2 x3 tp_entryCount tp_parameterCounts tp_lengths tp_fields tp_entries n (x6 + 1) o3.1 o3.2.1 o3.2.2.1 o3.2.2.2.1 o3.2.2.2.2.1 o3.2.2.2.2.2.1 o3.2.2.2.2.2.2.1 o3.2.2.2.2.2.2.2))
set_option maxHeartbeats 4000000 in
set_option maxRecDepth 100000 in
theorem b_X0_goIntoCalls_55 {p : Program} {l : Launch} {e : Env} {s : State} {m : MethodId} {args : Array Value} {below : List Frame} {meth : Method} {c : Code} {tA : Nat} {dC : Nat → ClassId} {dI : Nat → Nat → Nat} {cI cZ cJ : ClassId} {A : Nat → Prop} {a_t : Nat} {a_tp : Nat} {a_tp_parameterCounts : Nat} {a_tp_lengths : Nat} {a_tp_fields : Nat} {a_tp_entries : Nat} {a_tk : Nat} {a_tk_comeTo : Nat} {a_tk_any : Nat} {a_tk_numbers : Nat} {a_tr : Nat} {a_tr_any : Nat} {a_tr_numbers : Nat} {a_t_isWaiting : Nat} {a_t_waiting : Nat} {x1 : Int32} {x2 : Int32} {x3 : Int32} {tp_entryCount : Int32} {tp_parameterCounts : Nat → Int32} {tp_lengths : Nat → Int32} {tp_fields : Nat → Int32} {tp_entries : Nat → Int32} {tp_functionCount : Int32} {N : Nat} (hC : g_C p s m meth c args cX0_goIntoCalls 7 (none : Option Jvm.ClassFile.FieldType) RX0) :
    ∀ (n : Nat) (x6 : Int32) (t_waitingCount : Int32) (tk_comeTo : Nat → Int32) (tk_any : Nat → Int32) (tk_numbers : Nat → Int32) (tr_any : Nat → Int32) (tr_numbers : Nat → Int32) (t_isWaiting : Nat → Int32) (t_waiting : Nat → Int32) (out : Int32 × (Nat → Int32) × (Nat → Int32) × (Nat → Int32) × (Nat → Int32) × (Nat → Int32) × (Nat → Int32) × (Nat → Int32)), f_X0_goIntoCalls_55 N x1 x2 x3 tp_entryCount tp_parameterCounts tp_lengths tp_fields tp_entries n x6 t_waitingCount tk_comeTo tk_any tk_numbers tr_any tr_numbers t_isWaiting t_waiting = some out → ∀ (H : Heap) (locs : List Loc) (ls : Array Slot), g_W tA dC dI cI cZ cJ A s H locs (w_X0_goIntoCalls cI cZ cJ a_t a_tp a_tp_parameterCounts a_tp_lengths a_tp_fields a_tp_entries a_tk a_tk_comeTo a_tk_any a_tk_numbers a_tr a_tr_any a_tr_numbers a_t_isWaiting a_t_waiting t_waitingCount tp_functionCount tp_entryCount tp_parameterCounts tp_lengths tp_fields tp_entries tk_comeTo tk_any tk_numbers tr_any tr_numbers t_isWaiting t_waiting) → lv_has ls 7 [(0, .ref a_t), (1, .int x1), (2, .int x2), (6, .int x6)] → W p l e r_X0_goIntoCalls s m args below meth c H locs 0 0 (MQ below (g_Qv dC dI cI cZ cJ A (w_X0_goIntoCalls cI cZ cJ a_t a_tp a_tp_parameterCounts a_tp_lengths a_tp_fields a_tp_entries a_tk a_tk_comeTo a_tk_any a_tk_numbers a_tr a_tr_any a_tr_numbers a_t_isWaiting a_t_waiting out.1 tp_functionCount tp_entryCount tp_parameterCounts tp_lengths tp_fields tp_entries out.2.1 out.2.2.1 out.2.2.2.1 out.2.2.2.2.1 out.2.2.2.2.2.1 out.2.2.2.2.2.2.1 out.2.2.2.2.2.2.2)) args s 0 0 A) (F0 m 55 ls []) := by
  have hx := hC.1
  have hb := hC.2.1
  have hown := hC.2.2.2.2.1
  have hts := hC.2.2.2.2.2.1
  intro n
  induction n with
  | zero =>
    intro x6 t_waitingCount tk_comeTo tk_any tk_numbers tr_any tr_numbers t_isWaiting t_waiting out hf
    exact g_no hf
  | succ n ih =>
    intro x6 t_waitingCount tk_comeTo tk_any tk_numbers tr_any tr_numbers t_isWaiting t_waiting out hf H locs ls hW hl
    refine lv_iload hx hb dX0_goIntoCalls_55 (lv_at hl 3 rfl) ?_
    refine lv_aload_n hx hb dX0_goIntoCalls_57 rfl (lv_at hl 0 rfl) ?_
    refine gs_get hC hW in_X0 0 0 rfl rfl (by decide) fl_X0_9 rfl dX0_goIntoCalls_58 ?_
    refine gs_get hC hW in_X4 1 1 rfl rfl (by decide) fl_X0_97 rfl dX0_goIntoCalls_61 ?_
    refine lv_icmp_ge (tgt := 89) hx hb dX0_goIntoCalls_64 (by decide) (fun c1 => ?_) (fun c1 => ?_)
    · replace hf := (if_pos c1).symm.trans hf
      refine lv_goto (tgt := 126) hx hb dX0_goIntoCalls_89 (by decide) ?_
      obtain rfl := Option.some.inj hf
      exact gs_rv hC hW rfl dX0_goIntoCalls_126
    · replace hf := (if_neg c1).symm.trans hf
      refine lv_aload_n hx hb dX0_goIntoCalls_67 rfl (lv_at hl 0 rfl) ?_
      refine lv_iload_n hx hb dX0_goIntoCalls_68 rfl (lv_at hl 1 rfl) ?_
      refine lv_iload_n hx hb dX0_goIntoCalls_69 rfl (lv_at hl 2 rfl) ?_
      refine lv_aload_n hx hb dX0_goIntoCalls_70 rfl (lv_at hl 0 rfl) ?_
      refine gs_get hC hW in_X0 0 0 rfl rfl (by decide) fl_X0_9 rfl dX0_goIntoCalls_71 ?_
      refine gs_get hC hW in_X4 1 5 rfl rfl (by decide) fl_X0_111 rfl dX0_goIntoCalls_74 ?_
      refine lv_iload hx hb dX0_goIntoCalls_77 (lv_at hl 3 rfl) ?_
      obtain ⟨v2, h2, hf⟩ := g_bnd hf
      refine gs_iald hC hW 5 h2 rfl dX0_goIntoCalls_79 ?_
      obtain ⟨o3, h3, hf⟩ := g_bnd hf
      refine gs_callVv (ws' := w_X0_goIntoCalls cI cZ cJ a_t a_tp a_tp_parameterCounts a_tp_lengths a_tp_fields a_tp_entries a_tk a_tk_comeTo a_tk_any a_tk_numbers a_tr a_tr_any a_tr_numbers a_t_isWaiting a_t_waiting o3.1 tp_functionCount tp_entryCount tp_parameterCounts tp_lengths tp_fields tp_entries o3.2.1 o3.2.2.1 o3.2.2.2.1 o3.2.2.2.2.1 o3.2.2.2.2.2.1 o3.2.2.2.2.2.2.1 o3.2.2.2.2.2.2.2) hC hW (k_X0_goInto l tA dC dI cI cZ cJ a_t a_tp a_tp_parameterCounts a_tp_lengths a_tp_fields a_tk a_tk_comeTo a_tk_any a_tk_numbers a_tr a_tr_any a_tr_numbers a_t_isWaiting a_t_waiting a_tp_entries N x1 x2 v2 t_waitingCount tp_functionCount tp_entryCount tp_parameterCounts tp_lengths tp_fields tk_comeTo tk_any tk_numbers tr_any tr_numbers t_isWaiting t_waiting _ h3) yk_X0_goInto lk_X0_108 iv_X0_goInto ⟨rfl, rfl⟩ ⟨Nat.le_of_ble_eq_true rfl, Nat.le_of_ble_eq_true rfl⟩ hl.1 0 rfl rfl [0, 1, 2, 3, 4, 6, 7, 8, 9, 10, 11, 12, 13, 14] [5] [1, 2, 3, 4, 5, 0, 6, 7, 8, 9, 10, 11, 12, 13, 14] rfl rfl rfl rfl (by decide) rfl rfl rfl rfl (Nat.le_of_ble_eq_true rfl) dX0_goIntoCalls_80 ⟨Nat.zero_le _, Nat.zero_le _⟩ (fun H locs hW => ?_)
      refine lv_iinc (v := x6 + 1) (lv' := [(6, .int (x6 + 1)), (0, .ref a_t), (1, .int x1), (2, .int x2)]) hx hb dX0_goIntoCalls_83 hl (k := 3) rfl rfl (by decide) rfl (fun ls hl => ?_)
      refine lv_goto (tgt := 55) hx hb dX0_goIntoCalls_86 (by decide) ?_
      exact ih _ _ _ _ _ _ _ _ _ _ hf _ _ _ hW (lv_sub hl [1, 2, 3, 0] rfl)
def f_X0_goIntoCalls (N : Nat) (x1 : Int32) (x2 : Int32) (x3 : Int32) (t_waitingCount : Int32) (tp_entryCount : Int32) (tp_parameterCounts : Nat → Int32) (tp_lengths : Nat → Int32) (tp_fields : Nat → Int32) (tp_entries : Nat → Int32) (tk_comeTo : Nat → Int32) (tk_any : Nat → Int32) (tk_numbers : Nat → Int32) (tr_any : Nat → Int32) (tr_numbers : Nat → Int32) (t_isWaiting : Nat → Int32) (t_waiting : Nat → Int32) : Option (Int32 × (Nat → Int32) × (Nat → Int32) × (Nat → Int32) × (Nat → Int32) × (Nat → Int32) × (Nat → Int32) × (Nat → Int32)) := (f_X4_fieldOf x1 x2 2 tp_fields).bind (fun o4 => if x3 = 10 then (f_X0_goInto N x1 x2 o4 t_waitingCount tp_parameterCounts tp_lengths tp_fields tk_comeTo tk_any tk_numbers tr_any tr_numbers t_isWaiting t_waiting).bind (fun o13 => some (o13.1, o13.2.1, o13.2.2.1, o13.2.2.2.1, o13.2.2.2.2.1, o13.2.2.2.2.2.1, o13.2.2.2.2.2.2.1, o13.2.2.2.2.2.2.2)) else (f_X4_placeOf x1 x2 tp_lengths).bind (fun o6 => (f_X1_hasNumber o6 o4 tk_any).bind (fun o7 => if o7 = 0 then f_X0_goIntoCalls_55 N x1 x2 x3 tp_entryCount tp_parameterCounts tp_lengths tp_fields tp_entries N 0 t_waitingCount tk_comeTo tk_any tk_numbers tr_any tr_numbers t_isWaiting t_waiting else if tp_entryCount ≤ 0 then some (t_waitingCount, tk_comeTo, tk_any, tk_numbers, tr_any, tr_numbers, t_isWaiting, t_waiting) else (f_X1_numberOf o6 o4 tk_numbers).bind (fun o10 => (f_X4_entryFor o10 tp_entryCount tp_entries).bind (fun o11 => (f_X0_goInto N x1 x2 o11 t_waitingCount tp_parameterCounts tp_lengths tp_fields tk_comeTo tk_any tk_numbers tr_any tr_numbers t_isWaiting t_waiting).bind (fun o12 => some (o12.1, o12.2.1, o12.2.2.1, o12.2.2.2.1, o12.2.2.2.2.1, o12.2.2.2.2.2.1, o12.2.2.2.2.2.2.1, o12.2.2.2.2.2.2.2)))))))
set_option maxHeartbeats 4000000 in
set_option maxRecDepth 100000 in
theorem k_X0_goIntoCalls (l : Launch) (tA : Nat) (dC : Nat → ClassId) (dI : Nat → Nat → Nat) (cI cZ cJ : ClassId) (a_t : Nat) (a_tp : Nat) (a_tp_parameterCounts : Nat) (a_tp_lengths : Nat) (a_tp_fields : Nat) (a_tp_entries : Nat) (a_tk : Nat) (a_tk_comeTo : Nat) (a_tk_any : Nat) (a_tk_numbers : Nat) (a_tr : Nat) (a_tr_any : Nat) (a_tr_numbers : Nat) (a_t_isWaiting : Nat) (a_t_waiting : Nat) (N : Nat) (x1 : Int32) (x2 : Int32) (x3 : Int32) (t_waitingCount : Int32) (tp_functionCount : Int32) (tp_entryCount : Int32) (tp_parameterCounts : Nat → Int32) (tp_lengths : Nat → Int32) (tp_fields : Nat → Int32) (tp_entries : Nat → Int32) (tk_comeTo : Nat → Int32) (tk_any : Nat → Int32) (tk_numbers : Nat → Int32) (tr_any : Nat → Int32) (tr_numbers : Nat → Int32) (t_isWaiting : Nat → Int32) (t_waiting : Nat → Int32) (out : Int32 × (Nat → Int32) × (Nat → Int32) × (Nat → Int32) × (Nat → Int32) × (Nat → Int32) × (Nat → Int32) × (Nat → Int32)) (hf : f_X0_goIntoCalls N x1 x2 x3 t_waitingCount tp_entryCount tp_parameterCounts tp_lengths tp_fields tp_entries tk_comeTo tk_any tk_numbers tr_any tr_numbers t_isWaiting t_waiting = some out) : g_Mv l yX0_goIntoCalls cX0_goIntoCalls 7 (none : Option Jvm.ClassFile.FieldType) r_X0_goIntoCalls tA dC dI cI cZ cJ [.ref a_t, .int x1, .int x2, .int x3] (w_X0_goIntoCalls cI cZ cJ a_t a_tp a_tp_parameterCounts a_tp_lengths a_tp_fields a_tp_entries a_tk a_tk_comeTo a_tk_any a_tk_numbers a_tr a_tr_any a_tr_numbers a_t_isWaiting a_t_waiting t_waitingCount tp_functionCount tp_entryCount tp_parameterCounts tp_lengths tp_fields tp_entries tk_comeTo tk_any tk_numbers tr_any tr_numbers t_isWaiting t_waiting) (w_X0_goIntoCalls cI cZ cJ a_t a_tp a_tp_parameterCounts a_tp_lengths a_tp_fields a_tp_entries a_tk a_tk_comeTo a_tk_any a_tk_numbers a_tr a_tr_any a_tr_numbers a_t_isWaiting a_t_waiting out.1 tp_functionCount tp_entryCount tp_parameterCounts tp_lengths tp_fields tp_entries out.2.1 out.2.2.1 out.2.2.2.1 out.2.2.2.2.1 out.2.2.2.2.2.1 out.2.2.2.2.2.2.1 out.2.2.2.2.2.2.2) := by
  unfold f_X0_goIntoCalls at hf
  refine ge_v (by decide) (Nat.le_of_ble_eq_true rfl) (fun p e s m below meth c A H locs ls hC hW hl => ?_)
  have hC : g_C p s m meth c _ cX0_goIntoCalls 7 (none : Option Jvm.ClassFile.FieldType) RX0 := hC
  have hx := hC.1
  have hb := hC.2.1
  have hown := hC.2.2.2.2.1
  have hts := hC.2.2.2.2.2.1
  have hl : lv_has ls 7 [(0, .ref a_t), (1, .int x1), (2, .int x2), (3, .int x3)] := hl
  refine lv_aload_n hx hb dX0_goIntoCalls_0 rfl (lv_at hl 0 rfl) ?_
  refine gs_get hC hW in_X0 0 0 rfl rfl (by decide) fl_X0_9 rfl dX0_goIntoCalls_1 ?_
  refine lv_iload_n hx hb dX0_goIntoCalls_4 rfl (lv_at hl 1 rfl) ?_
  refine lv_iload_n hx hb dX0_goIntoCalls_5 rfl (lv_at hl 2 rfl) ?_
  refine lv_iconst (v := 2) hx hb dX0_goIntoCalls_6 (by decide) ?_
  obtain ⟨o4, h4, hf⟩ := g_bnd hf
  refine gs_callVi (ws' := w_X0_goIntoCalls cI cZ cJ a_t a_tp a_tp_parameterCounts a_tp_lengths a_tp_fields a_tp_entries a_tk a_tk_comeTo a_tk_any a_tk_numbers a_tr a_tr_any a_tr_numbers a_t_isWaiting a_t_waiting t_waitingCount tp_functionCount tp_entryCount tp_parameterCounts tp_lengths tp_fields tp_entries tk_comeTo tk_any tk_numbers tr_any tr_numbers t_isWaiting t_waiting) hC hW (k_X4_fieldOf l tA dC dI cI cZ cJ a_tp a_tp_fields a_tp_parameterCounts a_tp_lengths a_tp_entries x1 x2 2 tp_functionCount tp_entryCount tp_fields _ h4) yk_X4_fieldOf lk_X0_66 iv_X4_fieldOf ⟨rfl, rfl⟩ ⟨Nat.le_of_ble_eq_true rfl, Nat.le_of_ble_eq_true rfl⟩ hl.1 1 rfl rfl [1, 4] [0, 2, 3, 5, 6, 7, 8, 9, 10, 11, 12, 13, 14] [0, 13, 1, 2, 14, 3, 4, 5, 6, 7, 8, 9, 10, 11, 12] rfl rfl rfl rfl (by decide) rfl rfl rfl rfl (Nat.le_of_ble_eq_true rfl) dX0_goIntoCalls_7 ⟨Nat.zero_le _, Nat.zero_le _⟩ (fun H locs hW => ?_)
  refine lv_istore (lv' := [(4, .int o4), (0, .ref a_t), (1, .int x1), (2, .int x2), (3, .int x3)]) hx hb dX0_goIntoCalls_10 hl (by decide) rfl (fun ls hl => ?_)
  refine lv_iload_n hx hb dX0_goIntoCalls_12 rfl (lv_at hl 4 rfl) ?_
  refine lv_bipush (v := 10) hx hb dX0_goIntoCalls_13 (by decide) ?_
  refine lv_icmp_ne (tgt := 27) hx hb dX0_goIntoCalls_15 (by decide) (fun c5 => ?_) (fun c5 => ?_)
  · replace hf := (if_neg c5).symm.trans hf
    refine lv_aload_n hx hb dX0_goIntoCalls_27 rfl (lv_at hl 1 rfl) ?_
    refine gs_get hC hW in_X0 0 0 rfl rfl (by decide) fl_X0_9 rfl dX0_goIntoCalls_28 ?_
    refine lv_iload_n hx hb dX0_goIntoCalls_31 rfl (lv_at hl 2 rfl) ?_
    refine lv_iload_n hx hb dX0_goIntoCalls_32 rfl (lv_at hl 3 rfl) ?_
    obtain ⟨o6, h6, hf⟩ := g_bnd hf
    refine gs_callVi (ws' := w_X0_goIntoCalls cI cZ cJ a_t a_tp a_tp_parameterCounts a_tp_lengths a_tp_fields a_tp_entries a_tk a_tk_comeTo a_tk_any a_tk_numbers a_tr a_tr_any a_tr_numbers a_t_isWaiting a_t_waiting t_waitingCount tp_functionCount tp_entryCount tp_parameterCounts tp_lengths tp_fields tp_entries tk_comeTo tk_any tk_numbers tr_any tr_numbers t_isWaiting t_waiting) hC hW (k_X4_placeOf l tA dC dI cI cZ cJ a_tp a_tp_lengths a_tp_parameterCounts a_tp_fields a_tp_entries x1 x2 tp_functionCount tp_entryCount tp_lengths _ h6) yk_X4_placeOf lk_X0_53 iv_X4_placeOf ⟨rfl, rfl⟩ ⟨Nat.le_of_ble_eq_true rfl, Nat.le_of_ble_eq_true rfl⟩ hl.1 1 rfl rfl [1, 3] [0, 2, 4, 5, 6, 7, 8, 9, 10, 11, 12, 13, 14] [0, 13, 1, 14, 2, 3, 4, 5, 6, 7, 8, 9, 10, 11, 12] rfl rfl rfl rfl (by decide) rfl rfl rfl rfl (Nat.le_of_ble_eq_true rfl) dX0_goIntoCalls_33 ⟨Nat.zero_le _, Nat.zero_le _⟩ (fun H locs hW => ?_)
    refine lv_istore (lv' := [(5, .int o6), (4, .int o4), (0, .ref a_t), (1, .int x1), (2, .int x2), (3, .int x3)]) hx hb dX0_goIntoCalls_36 hl (by decide) rfl (fun ls hl => ?_)
    refine lv_aload_n hx hb dX0_goIntoCalls_38 rfl (lv_at hl 2 rfl) ?_
    refine gs_get hC hW in_X0 0 1 rfl rfl (by decide) fl_X0_15 rfl dX0_goIntoCalls_39 ?_
    refine lv_iload hx hb dX0_goIntoCalls_42 (lv_at hl 0 rfl) ?_
    refine lv_iload hx hb dX0_goIntoCalls_44 (lv_at hl 1 rfl) ?_
    obtain ⟨o7, h7, hf⟩ := g_bnd hf
    refine gs_callVi (ws' := w_X0_goIntoCalls cI cZ cJ a_t a_tp a_tp_parameterCounts a_tp_lengths a_tp_fields a_tp_entries a_tk a_tk_comeTo a_tk_any a_tk_numbers a_tr a_tr_any a_tr_numbers a_t_isWaiting a_t_waiting t_waitingCount tp_functionCount tp_entryCount tp_parameterCounts tp_lengths tp_fields tp_entries tk_comeTo tk_any tk_numbers tr_any tr_numbers t_isWaiting t_waiting) hC hW (k_X1_hasNumber l tA dC dI cI cZ cJ a_tk a_tk_any a_tk_comeTo a_tk_numbers o6 o4 tk_any _ h7) yk_X1_hasNumber lk_X0_87 iv_X1_hasNumber ⟨rfl, rfl⟩ ⟨Nat.le_of_ble_eq_true rfl, Nat.le_of_ble_eq_true rfl⟩ hl.1 6 rfl rfl [6, 8] [0, 1, 2, 3, 4, 5, 7, 9, 10, 11, 12, 13, 14] [0, 1, 2, 3, 4, 5, 13, 6, 14, 7, 8, 9, 10, 11, 12] rfl rfl rfl rfl (by decide) rfl rfl rfl rfl (Nat.le_of_ble_eq_true rfl) dX0_goIntoCalls_46 ⟨Nat.zero_le _, Nat.zero_le _⟩ (fun H locs hW => ?_)
    refine lv_if_ne (tgt := 92) hx hb dX0_goIntoCalls_49 (by decide) (fun c8 => ?_) (fun c8 => ?_)
    · replace hf := (if_neg c8).symm.trans hf
      refine lv_aload_n hx hb dX0_goIntoCalls_92 rfl (lv_at hl 2 rfl) ?_
      refine gs_get hC hW in_X0 0 0 rfl rfl (by decide) fl_X0_9 rfl dX0_goIntoCalls_93 ?_
      refine gs_get hC hW in_X4 1 1 rfl rfl (by decide) fl_X0_97 rfl dX0_goIntoCalls_96 ?_
      refine lv_if_le (tgt := 126) hx hb dX0_goIntoCalls_99 (by decide) (fun c9 => ?_) (fun c9 => ?_)
      · replace hf := (if_pos c9).symm.trans hf
        obtain rfl := Option.some.inj hf
        exact gs_rv hC hW rfl dX0_goIntoCalls_126
      · replace hf := (if_neg c9).symm.trans hf
        refine lv_aload_n hx hb dX0_goIntoCalls_102 rfl (lv_at hl 2 rfl) ?_
        refine lv_iload_n hx hb dX0_goIntoCalls_103 rfl (lv_at hl 3 rfl) ?_
        refine lv_iload_n hx hb dX0_goIntoCalls_104 rfl (lv_at hl 4 rfl) ?_
        refine lv_aload_n hx hb dX0_goIntoCalls_105 rfl (lv_at hl 2 rfl) ?_
        refine gs_get hC hW in_X0 0 0 rfl rfl (by decide) fl_X0_9 rfl dX0_goIntoCalls_106 ?_
        refine lv_aload_n hx hb dX0_goIntoCalls_109 rfl (lv_at hl 2 rfl) ?_
        refine gs_get hC hW in_X0 0 1 rfl rfl (by decide) fl_X0_15 rfl dX0_goIntoCalls_110 ?_
        refine lv_iload hx hb dX0_goIntoCalls_113 (lv_at hl 0 rfl) ?_
        refine lv_iload hx hb dX0_goIntoCalls_115 (lv_at hl 1 rfl) ?_
        obtain ⟨o10, h10, hf⟩ := g_bnd hf
        refine gs_callVi (ws' := w_X0_goIntoCalls cI cZ cJ a_t a_tp a_tp_parameterCounts a_tp_lengths a_tp_fields a_tp_entries a_tk a_tk_comeTo a_tk_any a_tk_numbers a_tr a_tr_any a_tr_numbers a_t_isWaiting a_t_waiting t_waitingCount tp_functionCount tp_entryCount tp_parameterCounts tp_lengths tp_fields tp_entries tk_comeTo tk_any tk_numbers tr_any tr_numbers t_isWaiting t_waiting) hC hW (k_X1_numberOf l tA dC dI cI cZ cJ a_tk a_tk_numbers a_tk_comeTo a_tk_any o6 o4 tk_numbers _ h10) yk_X1_numberOf lk_X0_91 iv_X1_numberOf ⟨rfl, rfl⟩ ⟨Nat.le_of_ble_eq_true rfl, Nat.le_of_ble_eq_true rfl⟩ hl.1 6 rfl rfl [6, 9] [0, 1, 2, 3, 4, 5, 7, 8, 10, 11, 12, 13, 14] [0, 1, 2, 3, 4, 5, 13, 6, 7, 14, 8, 9, 10, 11, 12] rfl rfl rfl rfl (by decide) rfl rfl rfl rfl (Nat.le_of_ble_eq_true rfl) dX0_goIntoCalls_117 ⟨Nat.zero_le _, Nat.zero_le _⟩ (fun H locs hW => ?_)
        obtain ⟨o11, h11, hf⟩ := g_bnd hf
        refine gs_callVi (ws' := w_X0_goIntoCalls cI cZ cJ a_t a_tp a_tp_parameterCounts a_tp_lengths a_tp_fields a_tp_entries a_tk a_tk_comeTo a_tk_any a_tk_numbers a_tr a_tr_any a_tr_numbers a_t_isWaiting a_t_waiting t_waitingCount tp_functionCount tp_entryCount tp_parameterCounts tp_lengths tp_fields tp_entries tk_comeTo tk_any tk_numbers tr_any tr_numbers t_isWaiting t_waiting) hC hW (k_X4_entryFor l tA dC dI cI cZ cJ a_tp a_tp_entries a_tp_parameterCounts a_tp_lengths a_tp_fields o10 tp_functionCount tp_entryCount tp_entries _ h11) yk_X4_entryFor lk_X0_114 iv_X4_entryFor ⟨rfl, rfl⟩ ⟨Nat.le_of_ble_eq_true rfl, Nat.le_of_ble_eq_true rfl⟩ hl.1 1 rfl rfl [1, 5] [0, 2, 3, 4, 6, 7, 8, 9, 10, 11, 12, 13, 14] [0, 13, 1, 2, 3, 14, 4, 5, 6, 7, 8, 9, 10, 11, 12] rfl rfl rfl rfl (by decide) rfl rfl rfl rfl (Nat.le_of_ble_eq_true rfl) dX0_goIntoCalls_120 ⟨Nat.zero_le _, Nat.zero_le _⟩ (fun H locs hW => ?_)
        obtain ⟨o12, h12, hf⟩ := g_bnd hf
        refine gs_callVv (ws' := w_X0_goIntoCalls cI cZ cJ a_t a_tp a_tp_parameterCounts a_tp_lengths a_tp_fields a_tp_entries a_tk a_tk_comeTo a_tk_any a_tk_numbers a_tr a_tr_any a_tr_numbers a_t_isWaiting a_t_waiting o12.1 tp_functionCount tp_entryCount tp_parameterCounts tp_lengths tp_fields tp_entries o12.2.1 o12.2.2.1 o12.2.2.2.1 o12.2.2.2.2.1 o12.2.2.2.2.2.1 o12.2.2.2.2.2.2.1 o12.2.2.2.2.2.2.2) hC hW (k_X0_goInto l tA dC dI cI cZ cJ a_t a_tp a_tp_parameterCounts a_tp_lengths a_tp_fields a_tk a_tk_comeTo a_tk_any a_tk_numbers a_tr a_tr_any a_tr_numbers a_t_isWaiting a_t_waiting a_tp_entries N x1 x2 o11 t_waitingCount tp_functionCount tp_entryCount tp_parameterCounts tp_lengths tp_fields tk_comeTo tk_any tk_numbers tr_any tr_numbers t_isWaiting t_waiting _ h12) yk_X0_goInto lk_X0_108 iv_X0_goInto ⟨rfl, rfl⟩ ⟨Nat.le_of_ble_eq_true rfl, Nat.le_of_ble_eq_true rfl⟩ hl.1 0 rfl rfl [0, 1, 2, 3, 4, 6, 7, 8, 9, 10, 11, 12, 13, 14] [5] [1, 2, 3, 4, 5, 0, 6, 7, 8, 9, 10, 11, 12, 13, 14] rfl rfl rfl rfl (by decide) rfl rfl rfl rfl (Nat.le_of_ble_eq_true rfl) dX0_goIntoCalls_123 ⟨Nat.zero_le _, Nat.zero_le _⟩ (fun H locs hW => ?_)
        obtain rfl := Option.some.inj hf
        exact gs_rv hC hW rfl dX0_goIntoCalls_126
    · replace hf := (if_pos c8).symm.trans hf
      refine lv_iconst (v := 0) hx hb dX0_goIntoCalls_52 (by decide) ?_
      refine lv_istore (lv' := [(6, .int 0), (5, .int o6), (4, .int o4), (0, .ref a_t), (1, .int x1), (2, .int x2), (3, .int x3)]) hx hb dX0_goIntoCalls_53 hl (by decide) rfl (fun ls hl => ?_)
      exact b_X0_goIntoCalls_55 hC N _ _ _ _ _ _ _ _ _ _ hf _ _ _ hW (lv_sub hl [3, 4, 5, 0] rfl)
  · replace hf := (if_pos c5).symm.trans hf
    refine lv_aload_n hx hb dX0_goIntoCalls_18 rfl (lv_at hl 1 rfl) ?_
    refine lv_iload_n hx hb dX0_goIntoCalls_19 rfl (lv_at hl 2 rfl) ?_
    refine lv_iload_n hx hb dX0_goIntoCalls_20 rfl (lv_at hl 3 rfl) ?_
    refine lv_iload hx hb dX0_goIntoCalls_21 (lv_at hl 0 rfl) ?_
    obtain ⟨o13, h13, hf⟩ := g_bnd hf
    refine gs_callVv (ws' := w_X0_goIntoCalls cI cZ cJ a_t a_tp a_tp_parameterCounts a_tp_lengths a_tp_fields a_tp_entries a_tk a_tk_comeTo a_tk_any a_tk_numbers a_tr a_tr_any a_tr_numbers a_t_isWaiting a_t_waiting o13.1 tp_functionCount tp_entryCount tp_parameterCounts tp_lengths tp_fields tp_entries o13.2.1 o13.2.2.1 o13.2.2.2.1 o13.2.2.2.2.1 o13.2.2.2.2.2.1 o13.2.2.2.2.2.2.1 o13.2.2.2.2.2.2.2) hC hW (k_X0_goInto l tA dC dI cI cZ cJ a_t a_tp a_tp_parameterCounts a_tp_lengths a_tp_fields a_tk a_tk_comeTo a_tk_any a_tk_numbers a_tr a_tr_any a_tr_numbers a_t_isWaiting a_t_waiting a_tp_entries N x1 x2 o4 t_waitingCount tp_functionCount tp_entryCount tp_parameterCounts tp_lengths tp_fields tk_comeTo tk_any tk_numbers tr_any tr_numbers t_isWaiting t_waiting _ h13) yk_X0_goInto lk_X0_108 iv_X0_goInto ⟨rfl, rfl⟩ ⟨Nat.le_of_ble_eq_true rfl, Nat.le_of_ble_eq_true rfl⟩ hl.1 0 rfl rfl [0, 1, 2, 3, 4, 6, 7, 8, 9, 10, 11, 12, 13, 14] [5] [1, 2, 3, 4, 5, 0, 6, 7, 8, 9, 10, 11, 12, 13, 14] rfl rfl rfl rfl (by decide) rfl rfl rfl rfl (Nat.le_of_ble_eq_true rfl) dX0_goIntoCalls_23 ⟨Nat.zero_le _, Nat.zero_le _⟩ (fun H locs hW => ?_)
    obtain rfl := Option.some.inj hf
    exact gs_rv hC hW rfl dX0_goIntoCalls_26

abbrev w_X0_takeRegisters (cI cZ cJ : ClassId) (a_t : Nat) (a_tk : Nat) (a_tk_any : Nat) (a_tk_numbers : Nat) (a_tr : Nat) (a_tr_any : Nat) (a_tr_numbers : Nat) (a_tp : Nat) (a_t_isWaiting : Nat) (a_t_waiting : Nat) (a_tk_comeTo : Nat) (t_waitingCount : Int32) (tk_any : Nat → Int32) (tk_numbers : Nat → Int32) (tr_any : Nat → Int32) (tr_numbers : Nat → Int32) : va_W := [(a_t, .inr (0, [.ref a_tp, .ref a_tk, .ref a_tr, .ref a_t_isWaiting, .ref a_t_waiting, .int t_waitingCount])), (a_tk, .inr (1, [.ref a_tk_comeTo, .ref a_tk_any, .ref a_tk_numbers])), (a_tk_any, .inl (cZ, 1224, .inl tk_any)), (a_tk_numbers, .inl (cI, 1224, .inl tk_numbers)), (a_tr, .inr (5, [.ref a_tr_any, .ref a_tr_numbers])), (a_tr_any, .inl (cZ, 6, .inl tr_any)), (a_tr_numbers, .inl (cI, 6, .inl tr_numbers))]
abbrev r_X0_takeRegisters : Room := { frames := 2, cells := 0, slots := 0, locals := 46 }
def f_X0_takeRegisters_2 (N : Nat) (x1 : Int32) (tk_any : Nat → Int32) (tk_numbers : Nat → Int32) : Nat → Int32 → (Nat → Int32) → (Nat → Int32) → Option ((Nat → Int32) × (Nat → Int32))
  | 0, _, _, _ => none
  | n + 1, x2, tr_any, tr_numbers => if 6 ≤ x2 then some (tr_any, tr_numbers) else (f_X0_takeOperand x2 x1 x2 tk_any tk_numbers tr_any tr_numbers).bind (fun o2 => f_X0_takeRegisters_2 N x1 tk_any tk_numbers n (x2 + 1) o2.1 o2.2)
set_option maxHeartbeats 4000000 in
set_option maxRecDepth 100000 in
theorem b_X0_takeRegisters_2 {p : Program} {l : Launch} {e : Env} {s : State} {m : MethodId} {args : Array Value} {below : List Frame} {meth : Method} {c : Code} {tA : Nat} {dC : Nat → ClassId} {dI : Nat → Nat → Nat} {cI cZ cJ : ClassId} {A : Nat → Prop} {a_t : Nat} {a_tk : Nat} {a_tk_any : Nat} {a_tk_numbers : Nat} {a_tr : Nat} {a_tr_any : Nat} {a_tr_numbers : Nat} {a_tp : Nat} {a_t_isWaiting : Nat} {a_t_waiting : Nat} {a_tk_comeTo : Nat} {x1 : Int32} {tk_any : Nat → Int32} {tk_numbers : Nat → Int32} {t_waitingCount : Int32} {N : Nat} (hC : g_C p s m meth c args cX0_takeRegisters 3 (none : Option Jvm.ClassFile.FieldType) RX0) :
    ∀ (n : Nat) (x2 : Int32) (tr_any : Nat → Int32) (tr_numbers : Nat → Int32) (out : (Nat → Int32) × (Nat → Int32)), f_X0_takeRegisters_2 N x1 tk_any tk_numbers n x2 tr_any tr_numbers = some out → ∀ (H : Heap) (locs : List Loc) (ls : Array Slot), g_W tA dC dI cI cZ cJ A s H locs (w_X0_takeRegisters cI cZ cJ a_t a_tk a_tk_any a_tk_numbers a_tr a_tr_any a_tr_numbers a_tp a_t_isWaiting a_t_waiting a_tk_comeTo t_waitingCount tk_any tk_numbers tr_any tr_numbers) → lv_has ls 3 [(0, .ref a_t), (1, .int x1), (2, .int x2)] → W p l e r_X0_takeRegisters s m args below meth c H locs 0 0 (MQ below (g_Qv dC dI cI cZ cJ A (w_X0_takeRegisters cI cZ cJ a_t a_tk a_tk_any a_tk_numbers a_tr a_tr_any a_tr_numbers a_tp a_t_isWaiting a_t_waiting a_tk_comeTo t_waitingCount tk_any tk_numbers out.1 out.2)) args s 0 0 A) (F0 m 2 ls []) := by
  have hx := hC.1
  have hb := hC.2.1
  have hown := hC.2.2.2.2.1
  have hts := hC.2.2.2.2.2.1
  intro n
  induction n with
  | zero =>
    intro x2 tr_any tr_numbers out hf
    exact g_no hf
  | succ n ih =>
    intro x2 tr_any tr_numbers out hf H locs ls hW hl
    refine lv_iload_n hx hb dX0_takeRegisters_2 rfl (lv_at hl 2 rfl) ?_
    refine lv_bipush (v := 6) hx hb dX0_takeRegisters_3 (by decide) ?_
    refine lv_icmp_ge (tgt := 21) hx hb dX0_takeRegisters_5 (by decide) (fun c1 => ?_) (fun c1 => ?_)
    · replace hf := (if_pos c1).symm.trans hf
      obtain rfl := Option.some.inj hf
      exact gs_rv hC hW rfl dX0_takeRegisters_21
    · replace hf := (if_neg c1).symm.trans hf
      refine lv_aload_n hx hb dX0_takeRegisters_8 rfl (lv_at hl 0 rfl) ?_
      refine lv_iload_n hx hb dX0_takeRegisters_9 rfl (lv_at hl 2 rfl) ?_
      refine lv_iload_n hx hb dX0_takeRegisters_10 rfl (lv_at hl 1 rfl) ?_
      refine lv_iload_n hx hb dX0_takeRegisters_11 rfl (lv_at hl 2 rfl) ?_
      obtain ⟨o2, h2, hf⟩ := g_bnd hf
      refine gs_callVv (ws' := w_X0_takeRegisters cI cZ cJ a_t a_tk a_tk_any a_tk_numbers a_tr a_tr_any a_tr_numbers a_tp a_t_isWaiting a_t_waiting a_tk_comeTo t_waitingCount tk_any tk_numbers o2.1 o2.2) hC hW (k_X0_takeOperand l tA dC dI cI cZ cJ a_t a_tk a_tk_any a_tk_numbers a_tr a_tr_any a_tr_numbers a_tp a_t_isWaiting a_t_waiting a_tk_comeTo x2 x1 x2 t_waitingCount tk_any tk_numbers tr_any tr_numbers _ h2) yk_X0_takeOperand lk_X0_84 iv_X0_takeOperand ⟨rfl, rfl⟩ ⟨Nat.le_of_ble_eq_true rfl, Nat.le_of_ble_eq_true rfl⟩ hl.1 0 rfl rfl [0, 1, 2, 3, 4, 5, 6] [] [0, 1, 2, 3, 4, 5, 6] rfl rfl rfl rfl (by decide) rfl rfl rfl rfl (Nat.le_of_ble_eq_true rfl) dX0_takeRegisters_12 ⟨Nat.zero_le _, Nat.zero_le _⟩ (fun H locs hW => ?_)
      refine lv_iinc (v := x2 + 1) (lv' := [(2, .int (x2 + 1)), (0, .ref a_t), (1, .int x1)]) hx hb dX0_takeRegisters_15 hl (k := 2) rfl rfl (by decide) rfl (fun ls hl => ?_)
      refine lv_goto (tgt := 2) hx hb dX0_takeRegisters_18 (by decide) ?_
      exact ih _ _ _ _ hf _ _ _ hW (lv_sub hl [1, 2, 0] rfl)
def f_X0_takeRegisters (N : Nat) (x1 : Int32) (tk_any : Nat → Int32) (tk_numbers : Nat → Int32) (tr_any : Nat → Int32) (tr_numbers : Nat → Int32) : Option ((Nat → Int32) × (Nat → Int32)) := f_X0_takeRegisters_2 N x1 tk_any tk_numbers N 0 tr_any tr_numbers
set_option maxHeartbeats 4000000 in
set_option maxRecDepth 100000 in
theorem k_X0_takeRegisters (l : Launch) (tA : Nat) (dC : Nat → ClassId) (dI : Nat → Nat → Nat) (cI cZ cJ : ClassId) (a_t : Nat) (a_tk : Nat) (a_tk_any : Nat) (a_tk_numbers : Nat) (a_tr : Nat) (a_tr_any : Nat) (a_tr_numbers : Nat) (a_tp : Nat) (a_t_isWaiting : Nat) (a_t_waiting : Nat) (a_tk_comeTo : Nat) (N : Nat) (x1 : Int32) (t_waitingCount : Int32) (tk_any : Nat → Int32) (tk_numbers : Nat → Int32) (tr_any : Nat → Int32) (tr_numbers : Nat → Int32) (out : (Nat → Int32) × (Nat → Int32)) (hf : f_X0_takeRegisters N x1 tk_any tk_numbers tr_any tr_numbers = some out) : g_Mv l yX0_takeRegisters cX0_takeRegisters 3 (none : Option Jvm.ClassFile.FieldType) r_X0_takeRegisters tA dC dI cI cZ cJ [.ref a_t, .int x1] (w_X0_takeRegisters cI cZ cJ a_t a_tk a_tk_any a_tk_numbers a_tr a_tr_any a_tr_numbers a_tp a_t_isWaiting a_t_waiting a_tk_comeTo t_waitingCount tk_any tk_numbers tr_any tr_numbers) (w_X0_takeRegisters cI cZ cJ a_t a_tk a_tk_any a_tk_numbers a_tr a_tr_any a_tr_numbers a_tp a_t_isWaiting a_t_waiting a_tk_comeTo t_waitingCount tk_any tk_numbers out.1 out.2) := by
  unfold f_X0_takeRegisters at hf
  refine ge_v (by decide) (Nat.le_of_ble_eq_true rfl) (fun p e s m below meth c A H locs ls hC hW hl => ?_)
  have hC : g_C p s m meth c _ cX0_takeRegisters 3 (none : Option Jvm.ClassFile.FieldType) RX0 := hC
  have hx := hC.1
  have hb := hC.2.1
  have hown := hC.2.2.2.2.1
  have hts := hC.2.2.2.2.2.1
  have hl : lv_has ls 3 [(0, .ref a_t), (1, .int x1)] := hl
  refine lv_iconst (v := 0) hx hb dX0_takeRegisters_0 (by decide) ?_
  refine lv_istore_n (lv' := [(2, .int 0), (0, .ref a_t), (1, .int x1)]) hx hb dX0_takeRegisters_1 rfl hl (by decide) rfl (fun ls hl => ?_)
  exact b_X0_takeRegisters_2 hC N _ _ _ _ hf _ _ _ hW (lv_sub hl [1, 2, 0] rfl)

abbrev w_X0_putComputed (cI cZ cJ : ClassId) (a_t : Nat) (a_tp : Nat) (a_tp_lengths : Nat) (a_tp_fields : Nat) (a_tk : Nat) (a_tk_any : Nat) (a_tk_numbers : Nat) (a_tr : Nat) (a_tr_any : Nat) (a_tr_numbers : Nat) (a_t_isWaiting : Nat) (a_t_waiting : Nat) (a_tp_parameterCounts : Nat) (a_tp_entries : Nat) (a_tk_comeTo : Nat) (t_waitingCount : Int32) (tp_functionCount : Int32) (tp_entryCount : Int32) (tp_lengths : Nat → Int32) (tp_fields : Nat → Int32) (tk_any : Nat → Int32) (tk_numbers : Nat → Int32) (tr_any : Nat → Int32) (tr_numbers : Nat → Int32) : va_W := [(a_t, .inr (0, [.ref a_tp, .ref a_tk, .ref a_tr, .ref a_t_isWaiting, .ref a_t_waiting, .int t_waitingCount])), (a_tp, .inr (4, [.int tp_functionCount, .int tp_entryCount, .ref a_tp_parameterCounts, .ref a_tp_lengths, .ref a_tp_fields, .ref a_tp_entries])), (a_tp_lengths, .inl (cI, 12, .inl tp_lengths)), (a_tp_fields, .inl (cI, 1152, .inl tp_fields)), (a_tk, .inr (1, [.ref a_tk_comeTo, .ref a_tk_any, .ref a_tk_numbers])), (a_tk_any, .inl (cZ, 1224, .inl tk_any)), (a_tk_numbers, .inl (cI, 1224, .inl tk_numbers)), (a_tr, .inr (5, [.ref a_tr_any, .ref a_tr_numbers])), (a_tr_any, .inl (cZ, 6, .inl tr_any)), (a_tr_numbers, .inl (cI, 6, .inl tr_numbers))]
abbrev r_X0_putComputed : Room := { frames := 2, cells := 0, slots := 0, locals := 44 }
def f_X0_putComputed_54 (x1 : Int32) (x2 : Int32) (x3 : Int32) (tp_lengths : Nat → Int32) (tp_fields : Nat → Int32) (tk_any : Nat → Int32) (tk_numbers : Nat → Int32) (x4 : Int32) (x5 : Int32) (x6 : Int32) (z0 : Int32) (tr_any : Nat → Int32) (tr_numbers : Nat → Int32) : Option ((Nat → Int32) × (Nat → Int32)) := (f_X5_putAny x4 tr_any tr_numbers).bind (fun o1 => (f_X1_hasNumber x5 x6 tk_any).bind (fun o2 => if o2 = 0 then some (o1.1, o1.2) else (f_X1_hasNumber x5 z0 tk_any).bind (fun o4 => if o4 = 0 then some (o1.1, o1.2) else (f_X1_numberOf x5 x6 tk_numbers).bind (fun o6 => (f_X1_numberOf x5 z0 tk_numbers).bind (fun o7 => (f_X7_compute x3 o6 o7).bind (fun o8 => if o8 < (-268435456) then some (o1.1, o1.2) else if 268435455 < o8 then some (o1.1, o1.2) else (f_X5_putNumber x4 o8 o1.1 o1.2).bind (fun o11 => some (o11.1, o11.2))))))))
set_option maxHeartbeats 4000000 in
set_option maxRecDepth 100000 in
theorem b_X0_putComputed_54 {p : Program} {l : Launch} {e : Env} {s : State} {m : MethodId} {args : Array Value} {below : List Frame} {meth : Method} {c : Code} {tA : Nat} {dC : Nat → ClassId} {dI : Nat → Nat → Nat} {cI cZ cJ : ClassId} {A : Nat → Prop} {a_t : Nat} {a_tp : Nat} {a_tp_lengths : Nat} {a_tp_fields : Nat} {a_tk : Nat} {a_tk_any : Nat} {a_tk_numbers : Nat} {a_tr : Nat} {a_tr_any : Nat} {a_tr_numbers : Nat} {a_t_isWaiting : Nat} {a_t_waiting : Nat} {a_tp_parameterCounts : Nat} {a_tp_entries : Nat} {a_tk_comeTo : Nat} {x1 : Int32} {x2 : Int32} {x3 : Int32} {tp_lengths : Nat → Int32} {tp_fields : Nat → Int32} {tk_any : Nat → Int32} {tk_numbers : Nat → Int32} {t_waitingCount : Int32} {tp_functionCount : Int32} {tp_entryCount : Int32} {x4 : Int32} {x5 : Int32} {x6 : Int32} {z0 : Int32} {tr_any : Nat → Int32} {tr_numbers : Nat → Int32} {out : (Nat → Int32) × (Nat → Int32)} (hC : g_C p s m meth c args cX0_putComputed 9 (none : Option Jvm.ClassFile.FieldType) RX0) (hf : f_X0_putComputed_54 x1 x2 x3 tp_lengths tp_fields tk_any tk_numbers x4 x5 x6 z0 tr_any tr_numbers = some out) {H : Heap} {locs : List Loc} {ls : Array Slot} (hW : g_W tA dC dI cI cZ cJ A s H locs (w_X0_putComputed cI cZ cJ a_t a_tp a_tp_lengths a_tp_fields a_tk a_tk_any a_tk_numbers a_tr a_tr_any a_tr_numbers a_t_isWaiting a_t_waiting a_tp_parameterCounts a_tp_entries a_tk_comeTo t_waitingCount tp_functionCount tp_entryCount tp_lengths tp_fields tk_any tk_numbers tr_any tr_numbers)) (hl : lv_has ls 9 [(0, .ref a_t), (3, .int x3), (4, .int x4), (5, .int x5), (6, .int x6)]) : W p l e r_X0_putComputed s m args below meth c H locs 0 0 (MQ below (g_Qv dC dI cI cZ cJ A (w_X0_putComputed cI cZ cJ a_t a_tp a_tp_lengths a_tp_fields a_tk a_tk_any a_tk_numbers a_tr a_tr_any a_tr_numbers a_t_isWaiting a_t_waiting a_tp_parameterCounts a_tp_entries a_tk_comeTo t_waitingCount tp_functionCount tp_entryCount tp_lengths tp_fields tk_any tk_numbers out.1 out.2)) args s 0 0 A) (F0 m 54 ls [.int z0]) := by
  have hx := hC.1
  have hb := hC.2.1
  have hown := hC.2.2.2.2.1
  have hts := hC.2.2.2.2.2.1
  unfold f_X0_putComputed_54 at hf
  refine lv_istore (lv' := [(7, .int z0), (0, .ref a_t), (3, .int x3), (4, .int x4), (5, .int x5), (6, .int x6)]) hx hb dX0_putComputed_54 hl (by decide) rfl (fun ls hl => ?_)
  refine lv_aload_n hx hb dX0_putComputed_56 rfl (lv_at hl 1 rfl) ?_
  refine gs_get hC hW in_X0 0 2 rfl rfl (by decide) fl_X0_22 rfl dX0_putComputed_57 ?_
  refine lv_iload hx hb dX0_putComputed_60 (lv_at hl 3 rfl) ?_
  obtain ⟨o1, h1, hf⟩ := g_bnd hf
  refine gs_callVv (ws' := w_X0_putComputed cI cZ cJ a_t a_tp a_tp_lengths a_tp_fields a_tk a_tk_any a_tk_numbers a_tr a_tr_any a_tr_numbers a_t_isWaiting a_t_waiting a_tp_parameterCounts a_tp_entries a_tk_comeTo t_waitingCount tp_functionCount tp_entryCount tp_lengths tp_fields tk_any tk_numbers o1.1 o1.2) hC hW (k_X5_putAny l tA dC dI cI cZ cJ a_tr a_tr_any a_tr_numbers x4 tr_any tr_numbers _ h1) yk_X5_putAny lk_X0_94 iv_X5_putAny ⟨rfl, rfl⟩ ⟨Nat.le_of_ble_eq_true rfl, Nat.le_of_ble_eq_true rfl⟩ hl.1 7 rfl rfl [7, 8, 9] [0, 1, 2, 3, 4, 5, 6] [0, 1, 2, 3, 4, 5, 6, 7, 8, 9] rfl rfl rfl rfl (by decide) rfl rfl rfl rfl (Nat.le_of_ble_eq_true rfl) dX0_putComputed_62 ⟨Nat.zero_le _, Nat.zero_le _⟩ (fun H locs hW => ?_)
  refine lv_aload_n hx hb dX0_putComputed_65 rfl (lv_at hl 1 rfl) ?_
  refine gs_get hC hW in_X0 0 1 rfl rfl (by decide) fl_X0_15 rfl dX0_putComputed_66 ?_
  refine lv_iload hx hb dX0_putComputed_69 (lv_at hl 4 rfl) ?_
  refine lv_iload hx hb dX0_putComputed_71 (lv_at hl 5 rfl) ?_
  obtain ⟨o2, h2, hf⟩ := g_bnd hf
  refine gs_callVi (ws' := w_X0_putComputed cI cZ cJ a_t a_tp a_tp_lengths a_tp_fields a_tk a_tk_any a_tk_numbers a_tr a_tr_any a_tr_numbers a_t_isWaiting a_t_waiting a_tp_parameterCounts a_tp_entries a_tk_comeTo t_waitingCount tp_functionCount tp_entryCount tp_lengths tp_fields tk_any tk_numbers o1.1 o1.2) hC hW (k_X1_hasNumber l tA dC dI cI cZ cJ a_tk a_tk_any a_tk_comeTo a_tk_numbers x5 x6 tk_any _ h2) yk_X1_hasNumber lk_X0_87 iv_X1_hasNumber ⟨rfl, rfl⟩ ⟨Nat.le_of_ble_eq_true rfl, Nat.le_of_ble_eq_true rfl⟩ hl.1 4 rfl rfl [4, 5] [0, 1, 2, 3, 6, 7, 8, 9] [0, 1, 2, 3, 8, 9, 4, 5, 6, 7] rfl rfl rfl rfl (by decide) rfl rfl rfl rfl (Nat.le_of_ble_eq_true rfl) dX0_putComputed_73 ⟨Nat.zero_le _, Nat.zero_le _⟩ (fun H locs hW => ?_)
  refine lv_if_eq (tgt := 146) hx hb dX0_putComputed_76 (by decide) (fun c3 => ?_) (fun c3 => ?_)
  · replace hf := (if_pos c3).symm.trans hf
    obtain rfl := Option.some.inj hf
    exact gs_rv hC hW rfl dX0_putComputed_146
  · replace hf := (if_neg c3).symm.trans hf
    refine lv_aload_n hx hb dX0_putComputed_79 rfl (lv_at hl 1 rfl) ?_
    refine gs_get hC hW in_X0 0 1 rfl rfl (by decide) fl_X0_15 rfl dX0_putComputed_80 ?_
    refine lv_iload hx hb dX0_putComputed_83 (lv_at hl 4 rfl) ?_
    refine lv_iload hx hb dX0_putComputed_85 (lv_at hl 0 rfl) ?_
    obtain ⟨o4, h4, hf⟩ := g_bnd hf
    refine gs_callVi (ws' := w_X0_putComputed cI cZ cJ a_t a_tp a_tp_lengths a_tp_fields a_tk a_tk_any a_tk_numbers a_tr a_tr_any a_tr_numbers a_t_isWaiting a_t_waiting a_tp_parameterCounts a_tp_entries a_tk_comeTo t_waitingCount tp_functionCount tp_entryCount tp_lengths tp_fields tk_any tk_numbers o1.1 o1.2) hC hW (k_X1_hasNumber l tA dC dI cI cZ cJ a_tk a_tk_any a_tk_comeTo a_tk_numbers x5 z0 tk_any _ h4) yk_X1_hasNumber lk_X0_87 iv_X1_hasNumber ⟨rfl, rfl⟩ ⟨Nat.le_of_ble_eq_true rfl, Nat.le_of_ble_eq_true rfl⟩ hl.1 4 rfl rfl [4, 5] [0, 1, 2, 3, 6, 7, 8, 9] [0, 1, 2, 3, 8, 9, 4, 5, 6, 7] rfl rfl rfl rfl (by decide) rfl rfl rfl rfl (Nat.le_of_ble_eq_true rfl) dX0_putComputed_87 ⟨Nat.zero_le _, Nat.zero_le _⟩ (fun H locs hW => ?_)
    refine lv_if_eq (tgt := 146) hx hb dX0_putComputed_90 (by decide) (fun c5 => ?_) (fun c5 => ?_)
    · replace hf := (if_pos c5).symm.trans hf
      obtain rfl := Option.some.inj hf
      exact gs_rv hC hW rfl dX0_putComputed_146
    · replace hf := (if_neg c5).symm.trans hf
      refine lv_iload_n hx hb dX0_putComputed_93 rfl (lv_at hl 2 rfl) ?_
      refine lv_aload_n hx hb dX0_putComputed_94 rfl (lv_at hl 1 rfl) ?_
      refine gs_get hC hW in_X0 0 1 rfl rfl (by decide) fl_X0_15 rfl dX0_putComputed_95 ?_
      refine lv_iload hx hb dX0_putComputed_98 (lv_at hl 4 rfl) ?_
      refine lv_iload hx hb dX0_putComputed_100 (lv_at hl 5 rfl) ?_
      obtain ⟨o6, h6, hf⟩ := g_bnd hf
      refine gs_callVi (ws' := w_X0_putComputed cI cZ cJ a_t a_tp a_tp_lengths a_tp_fields a_tk a_tk_any a_tk_numbers a_tr a_tr_any a_tr_numbers a_t_isWaiting a_t_waiting a_tp_parameterCounts a_tp_entries a_tk_comeTo t_waitingCount tp_functionCount tp_entryCount tp_lengths tp_fields tk_any tk_numbers o1.1 o1.2) hC hW (k_X1_numberOf l tA dC dI cI cZ cJ a_tk a_tk_numbers a_tk_comeTo a_tk_any x5 x6 tk_numbers _ h6) yk_X1_numberOf lk_X0_91 iv_X1_numberOf ⟨rfl, rfl⟩ ⟨Nat.le_of_ble_eq_true rfl, Nat.le_of_ble_eq_true rfl⟩ hl.1 4 rfl rfl [4, 6] [0, 1, 2, 3, 5, 7, 8, 9] [0, 1, 2, 3, 8, 4, 9, 5, 6, 7] rfl rfl rfl rfl (by decide) rfl rfl rfl rfl (Nat.le_of_ble_eq_true rfl) dX0_putComputed_102 ⟨Nat.zero_le _, Nat.zero_le _⟩ (fun H locs hW => ?_)
      refine lv_aload_n hx hb dX0_putComputed_105 rfl (lv_at hl 1 rfl) ?_
      refine gs_get hC hW in_X0 0 1 rfl rfl (by decide) fl_X0_15 rfl dX0_putComputed_106 ?_
      refine lv_iload hx hb dX0_putComputed_109 (lv_at hl 4 rfl) ?_
      refine lv_iload hx hb dX0_putComputed_111 (lv_at hl 0 rfl) ?_
      obtain ⟨o7, h7, hf⟩ := g_bnd hf
      refine gs_callVi (ws' := w_X0_putComputed cI cZ cJ a_t a_tp a_tp_lengths a_tp_fields a_tk a_tk_any a_tk_numbers a_tr a_tr_any a_tr_numbers a_t_isWaiting a_t_waiting a_tp_parameterCounts a_tp_entries a_tk_comeTo t_waitingCount tp_functionCount tp_entryCount tp_lengths tp_fields tk_any tk_numbers o1.1 o1.2) hC hW (k_X1_numberOf l tA dC dI cI cZ cJ a_tk a_tk_numbers a_tk_comeTo a_tk_any x5 z0 tk_numbers _ h7) yk_X1_numberOf lk_X0_91 iv_X1_numberOf ⟨rfl, rfl⟩ ⟨Nat.le_of_ble_eq_true rfl, Nat.le_of_ble_eq_true rfl⟩ hl.1 4 rfl rfl [4, 6] [0, 1, 2, 3, 5, 7, 8, 9] [0, 1, 2, 3, 8, 4, 9, 5, 6, 7] rfl rfl rfl rfl (by decide) rfl rfl rfl rfl (Nat.le_of_ble_eq_true rfl) dX0_putComputed_113 ⟨Nat.zero_le _, Nat.zero_le _⟩ (fun H locs hW => ?_)
      obtain ⟨o8, h8, hf⟩ := g_bnd hf
      refine gs_callSNi (ws' := w_X0_putComputed cI cZ cJ a_t a_tp a_tp_lengths a_tp_fields a_tk a_tk_any a_tk_numbers a_tr a_tr_any a_tr_numbers a_t_isWaiting a_t_waiting a_tp_parameterCounts a_tp_entries a_tk_comeTo t_waitingCount tp_functionCount tp_entryCount tp_lengths tp_fields tk_any tk_numbers o1.1 o1.2) hC hW (k_X7_compute l tA dC dI cI cZ cJ x3 o6 o7 _ h8) yk_X7_compute ln_X0_103 is_X7_compute ⟨rfl, rfl⟩ ⟨Nat.le_of_ble_eq_true rfl, Nat.le_of_ble_eq_true rfl⟩ hl.1 [] [0, 1, 2, 3, 4, 5, 6, 7, 8, 9] [0, 1, 2, 3, 4, 5, 6, 7, 8, 9] rfl rfl rfl rfl (by decide) rfl rfl rfl rfl (Nat.le_of_ble_eq_true rfl) dX0_putComputed_116 ⟨Nat.zero_le _, Nat.zero_le _⟩ (fun H locs hW => ?_)
      refine lv_istore (lv' := [(8, .int o8), (7, .int z0), (0, .ref a_t), (3, .int x3), (4, .int x4), (5, .int x5), (6, .int x6)]) hx hb dX0_putComputed_119 hl (by decide) rfl (fun ls hl => ?_)
      refine lv_iload hx hb dX0_putComputed_121 (lv_at hl 0 rfl) ?_
      refine lv_ldc (v := (-268435456)) hx hb hown (hts _ co_X0_106) dX0_putComputed_123 ?_
      refine lv_icmp_lt (tgt := 146) hx hb dX0_putComputed_125 (by decide) (fun c9 => ?_) (fun c9 => ?_)
      · replace hf := (if_pos c9).symm.trans hf
        obtain rfl := Option.some.inj hf
        exact gs_rv hC hW rfl dX0_putComputed_146
      · replace hf := (if_neg c9).symm.trans hf
        refine lv_iload hx hb dX0_putComputed_128 (lv_at hl 0 rfl) ?_
        refine lv_ldc (v := 268435455) hx hb hown (hts _ co_X0_107) dX0_putComputed_130 ?_
        refine lv_icmp_gt (tgt := 146) hx hb dX0_putComputed_132 (by decide) (fun c10 => ?_) (fun c10 => ?_)
        · replace hf := (if_pos c10).symm.trans hf
          obtain rfl := Option.some.inj hf
          exact gs_rv hC hW rfl dX0_putComputed_146
        · replace hf := (if_neg c10).symm.trans hf
          refine lv_aload_n hx hb dX0_putComputed_135 rfl (lv_at hl 2 rfl) ?_
          refine gs_get hC hW in_X0 0 2 rfl rfl (by decide) fl_X0_22 rfl dX0_putComputed_136 ?_
          refine lv_iload hx hb dX0_putComputed_139 (lv_at hl 4 rfl) ?_
          refine lv_iload hx hb dX0_putComputed_141 (lv_at hl 0 rfl) ?_
          obtain ⟨o11, h11, hf⟩ := g_bnd hf
          refine gs_callVv (ws' := w_X0_putComputed cI cZ cJ a_t a_tp a_tp_lengths a_tp_fields a_tk a_tk_any a_tk_numbers a_tr a_tr_any a_tr_numbers a_t_isWaiting a_t_waiting a_tp_parameterCounts a_tp_entries a_tk_comeTo t_waitingCount tp_functionCount tp_entryCount tp_lengths tp_fields tk_any tk_numbers o11.1 o11.2) hC hW (k_X5_putNumber l tA dC dI cI cZ cJ a_tr a_tr_any a_tr_numbers x4 o8 o1.1 o1.2 _ h11) yk_X5_putNumber lk_X0_43 iv_X5_putNumber ⟨rfl, rfl⟩ ⟨Nat.le_of_ble_eq_true rfl, Nat.le_of_ble_eq_true rfl⟩ hl.1 7 rfl rfl [7, 8, 9] [0, 1, 2, 3, 4, 5, 6] [0, 1, 2, 3, 4, 5, 6, 7, 8, 9] rfl rfl rfl rfl (by decide) rfl rfl rfl rfl (Nat.le_of_ble_eq_true rfl) dX0_putComputed_143 ⟨Nat.zero_le _, Nat.zero_le _⟩ (fun H locs hW => ?_)
          obtain rfl := Option.some.inj hf
          exact gs_rv hC hW rfl dX0_putComputed_146
def f_X0_putComputed (x1 : Int32) (x2 : Int32) (x3 : Int32) (tp_lengths : Nat → Int32) (tp_fields : Nat → Int32) (tk_any : Nat → Int32) (tk_numbers : Nat → Int32) (tr_any : Nat → Int32) (tr_numbers : Nat → Int32) : Option ((Nat → Int32) × (Nat → Int32)) := (f_X4_fieldOf x1 x2 1 tp_fields).bind (fun o12 => (f_X4_placeOf x1 x2 tp_lengths).bind (fun o13 => (f_X4_fieldOf x1 x2 3 tp_fields).bind (fun o14 => if x3 = 0 then f_X0_putComputed_54 x1 x2 x3 tp_lengths tp_fields tk_any tk_numbers o12 o13 o14 o14 tr_any tr_numbers else (f_X4_fieldOf x1 x2 4 tp_fields).bind (fun o16 => f_X0_putComputed_54 x1 x2 x3 tp_lengths tp_fields tk_any tk_numbers o12 o13 o14 o16 tr_any tr_numbers))))
set_option maxHeartbeats 4000000 in
set_option maxRecDepth 100000 in
theorem k_X0_putComputed (l : Launch) (tA : Nat) (dC : Nat → ClassId) (dI : Nat → Nat → Nat) (cI cZ cJ : ClassId) (a_t : Nat) (a_tp : Nat) (a_tp_lengths : Nat) (a_tp_fields : Nat) (a_tk : Nat) (a_tk_any : Nat) (a_tk_numbers : Nat) (a_tr : Nat) (a_tr_any : Nat) (a_tr_numbers : Nat) (a_t_isWaiting : Nat) (a_t_waiting : Nat) (a_tp_parameterCounts : Nat) (a_tp_entries : Nat) (a_tk_comeTo : Nat) (x1 : Int32) (x2 : Int32) (x3 : Int32) (t_waitingCount : Int32) (tp_functionCount : Int32) (tp_entryCount : Int32) (tp_lengths : Nat → Int32) (tp_fields : Nat → Int32) (tk_any : Nat → Int32) (tk_numbers : Nat → Int32) (tr_any : Nat → Int32) (tr_numbers : Nat → Int32) (out : (Nat → Int32) × (Nat → Int32)) (hf : f_X0_putComputed x1 x2 x3 tp_lengths tp_fields tk_any tk_numbers tr_any tr_numbers = some out) : g_Mv l yX0_putComputed cX0_putComputed 9 (none : Option Jvm.ClassFile.FieldType) r_X0_putComputed tA dC dI cI cZ cJ [.ref a_t, .int x1, .int x2, .int x3] (w_X0_putComputed cI cZ cJ a_t a_tp a_tp_lengths a_tp_fields a_tk a_tk_any a_tk_numbers a_tr a_tr_any a_tr_numbers a_t_isWaiting a_t_waiting a_tp_parameterCounts a_tp_entries a_tk_comeTo t_waitingCount tp_functionCount tp_entryCount tp_lengths tp_fields tk_any tk_numbers tr_any tr_numbers) (w_X0_putComputed cI cZ cJ a_t a_tp a_tp_lengths a_tp_fields a_tk a_tk_any a_tk_numbers a_tr a_tr_any a_tr_numbers a_t_isWaiting a_t_waiting a_tp_parameterCounts a_tp_entries a_tk_comeTo t_waitingCount tp_functionCount tp_entryCount tp_lengths tp_fields tk_any tk_numbers out.1 out.2) := by
  unfold f_X0_putComputed at hf
  refine ge_v (by decide) (Nat.le_of_ble_eq_true rfl) (fun p e s m below meth c A H locs ls hC hW hl => ?_)
  have hC : g_C p s m meth c _ cX0_putComputed 9 (none : Option Jvm.ClassFile.FieldType) RX0 := hC
  have hx := hC.1
  have hb := hC.2.1
  have hown := hC.2.2.2.2.1
  have hts := hC.2.2.2.2.2.1
  have hl : lv_has ls 9 [(0, .ref a_t), (1, .int x1), (2, .int x2), (3, .int x3)] := hl
  refine lv_aload_n hx hb dX0_putComputed_0 rfl (lv_at hl 0 rfl) ?_
  refine gs_get hC hW in_X0 0 0 rfl rfl (by decide) fl_X0_9 rfl dX0_putComputed_1 ?_
  refine lv_iload_n hx hb dX0_putComputed_4 rfl (lv_at hl 1 rfl) ?_
  refine lv_iload_n hx hb dX0_putComputed_5 rfl (lv_at hl 2 rfl) ?_
  refine lv_iconst (v := 1) hx hb dX0_putComputed_6 (by decide) ?_
  obtain ⟨o12, h12, hf⟩ := g_bnd hf
  refine gs_callVi (ws' := w_X0_putComputed cI cZ cJ a_t a_tp a_tp_lengths a_tp_fields a_tk a_tk_any a_tk_numbers a_tr a_tr_any a_tr_numbers a_t_isWaiting a_t_waiting a_tp_parameterCounts a_tp_entries a_tk_comeTo t_waitingCount tp_functionCount tp_entryCount tp_lengths tp_fields tk_any tk_numbers tr_any tr_numbers) hC hW (k_X4_fieldOf l tA dC dI cI cZ cJ a_tp a_tp_fields a_tp_parameterCounts a_tp_lengths a_tp_entries x1 x2 1 tp_functionCount tp_entryCount tp_fields _ h12) yk_X4_fieldOf lk_X0_66 iv_X4_fieldOf ⟨rfl, rfl⟩ ⟨Nat.le_of_ble_eq_true rfl, Nat.le_of_ble_eq_true rfl⟩ hl.1 1 rfl rfl [1, 3] [0, 2, 4, 5, 6, 7, 8, 9] [0, 8, 1, 9, 2, 3, 4, 5, 6, 7] rfl rfl rfl rfl (by decide) rfl rfl rfl rfl (Nat.le_of_ble_eq_true rfl) dX0_putComputed_7 ⟨Nat.zero_le _, Nat.zero_le _⟩ (fun H locs hW => ?_)
  refine lv_istore (lv' := [(4, .int o12), (0, .ref a_t), (1, .int x1), (2, .int x2), (3, .int x3)]) hx hb dX0_putComputed_10 hl (by decide) rfl (fun ls hl => ?_)
  refine lv_aload_n hx hb dX0_putComputed_12 rfl (lv_at hl 1 rfl) ?_
  refine gs_get hC hW in_X0 0 0 rfl rfl (by decide) fl_X0_9 rfl dX0_putComputed_13 ?_
  refine lv_iload_n hx hb dX0_putComputed_16 rfl (lv_at hl 2 rfl) ?_
  refine lv_iload_n hx hb dX0_putComputed_17 rfl (lv_at hl 3 rfl) ?_
  obtain ⟨o13, h13, hf⟩ := g_bnd hf
  refine gs_callVi (ws' := w_X0_putComputed cI cZ cJ a_t a_tp a_tp_lengths a_tp_fields a_tk a_tk_any a_tk_numbers a_tr a_tr_any a_tr_numbers a_t_isWaiting a_t_waiting a_tp_parameterCounts a_tp_entries a_tk_comeTo t_waitingCount tp_functionCount tp_entryCount tp_lengths tp_fields tk_any tk_numbers tr_any tr_numbers) hC hW (k_X4_placeOf l tA dC dI cI cZ cJ a_tp a_tp_lengths a_tp_parameterCounts a_tp_fields a_tp_entries x1 x2 tp_functionCount tp_entryCount tp_lengths _ h13) yk_X4_placeOf lk_X0_53 iv_X4_placeOf ⟨rfl, rfl⟩ ⟨Nat.le_of_ble_eq_true rfl, Nat.le_of_ble_eq_true rfl⟩ hl.1 1 rfl rfl [1, 2] [0, 3, 4, 5, 6, 7, 8, 9] [0, 8, 9, 1, 2, 3, 4, 5, 6, 7] rfl rfl rfl rfl (by decide) rfl rfl rfl rfl (Nat.le_of_ble_eq_true rfl) dX0_putComputed_18 ⟨Nat.zero_le _, Nat.zero_le _⟩ (fun H locs hW => ?_)
  refine lv_istore (lv' := [(5, .int o13), (4, .int o12), (0, .ref a_t), (1, .int x1), (2, .int x2), (3, .int x3)]) hx hb dX0_putComputed_21 hl (by decide) rfl (fun ls hl => ?_)
  refine lv_aload_n hx hb dX0_putComputed_23 rfl (lv_at hl 2 rfl) ?_
  refine gs_get hC hW in_X0 0 0 rfl rfl (by decide) fl_X0_9 rfl dX0_putComputed_24 ?_
  refine lv_iload_n hx hb dX0_putComputed_27 rfl (lv_at hl 3 rfl) ?_
  refine lv_iload_n hx hb dX0_putComputed_28 rfl (lv_at hl 4 rfl) ?_
  refine lv_iconst (v := 3) hx hb dX0_putComputed_29 (by decide) ?_
  obtain ⟨o14, h14, hf⟩ := g_bnd hf
  refine gs_callVi (ws' := w_X0_putComputed cI cZ cJ a_t a_tp a_tp_lengths a_tp_fields a_tk a_tk_any a_tk_numbers a_tr a_tr_any a_tr_numbers a_t_isWaiting a_t_waiting a_tp_parameterCounts a_tp_entries a_tk_comeTo t_waitingCount tp_functionCount tp_entryCount tp_lengths tp_fields tk_any tk_numbers tr_any tr_numbers) hC hW (k_X4_fieldOf l tA dC dI cI cZ cJ a_tp a_tp_fields a_tp_parameterCounts a_tp_lengths a_tp_entries x1 x2 3 tp_functionCount tp_entryCount tp_fields _ h14) yk_X4_fieldOf lk_X0_66 iv_X4_fieldOf ⟨rfl, rfl⟩ ⟨Nat.le_of_ble_eq_true rfl, Nat.le_of_ble_eq_true rfl⟩ hl.1 1 rfl rfl [1, 3] [0, 2, 4, 5, 6, 7, 8, 9] [0, 8, 1, 9, 2, 3, 4, 5, 6, 7] rfl rfl rfl rfl (by decide) rfl rfl rfl rfl (Nat.le_of_ble_eq_true rfl) dX0_putComputed_30 ⟨Nat.zero_le _, Nat.zero_le _⟩ (fun H locs hW => ?_)
  refine lv_istore (lv' := [(6, .int o14), (5, .int o13), (4, .int o12), (0, .ref a_t), (1, .int x1), (2, .int x2), (3, .int x3)]) hx hb dX0_putComputed_33 hl (by decide) rfl (fun ls hl => ?_)
  refine lv_iload_n hx hb dX0_putComputed_35 rfl (lv_at hl 6 rfl) ?_
  refine lv_if_ne (tgt := 44) hx hb dX0_putComputed_36 (by decide) (fun c15 => ?_) (fun c15 => ?_)
  · replace hf := (if_neg c15).symm.trans hf
    refine lv_aload_n hx hb dX0_putComputed_44 rfl (lv_at hl 3 rfl) ?_
    refine gs_get hC hW in_X0 0 0 rfl rfl (by decide) fl_X0_9 rfl dX0_putComputed_45 ?_
    refine lv_iload_n hx hb dX0_putComputed_48 rfl (lv_at hl 4 rfl) ?_
    refine lv_iload_n hx hb dX0_putComputed_49 rfl (lv_at hl 5 rfl) ?_
    refine lv_iconst (v := 4) hx hb dX0_putComputed_50 (by decide) ?_
    obtain ⟨o16, h16, hf⟩ := g_bnd hf
    refine gs_callVi (ws' := w_X0_putComputed cI cZ cJ a_t a_tp a_tp_lengths a_tp_fields a_tk a_tk_any a_tk_numbers a_tr a_tr_any a_tr_numbers a_t_isWaiting a_t_waiting a_tp_parameterCounts a_tp_entries a_tk_comeTo t_waitingCount tp_functionCount tp_entryCount tp_lengths tp_fields tk_any tk_numbers tr_any tr_numbers) hC hW (k_X4_fieldOf l tA dC dI cI cZ cJ a_tp a_tp_fields a_tp_parameterCounts a_tp_lengths a_tp_entries x1 x2 4 tp_functionCount tp_entryCount tp_fields _ h16) yk_X4_fieldOf lk_X0_66 iv_X4_fieldOf ⟨rfl, rfl⟩ ⟨Nat.le_of_ble_eq_true rfl, Nat.le_of_ble_eq_true rfl⟩ hl.1 1 rfl rfl [1, 3] [0, 2, 4, 5, 6, 7, 8, 9] [0, 8, 1, 9, 2, 3, 4, 5, 6, 7] rfl rfl rfl rfl (by decide) rfl rfl rfl rfl (Nat.le_of_ble_eq_true rfl) dX0_putComputed_51 ⟨Nat.zero_le _, Nat.zero_le _⟩ (fun H locs hW => ?_)
    exact b_X0_putComputed_54 hC hf hW (lv_sub hl [3, 6, 2, 1, 0] rfl)
  · replace hf := (if_pos c15).symm.trans hf
    refine lv_iload hx hb dX0_putComputed_39 (lv_at hl 0 rfl) ?_
    refine lv_goto (tgt := 54) hx hb dX0_putComputed_41 (by decide) ?_
    exact b_X0_putComputed_54 hC hf hW (lv_sub hl [3, 6, 2, 1, 0] rfl)

abbrev w_X0_putResult (cI cZ cJ : ClassId) (a_t : Nat) (a_tp : Nat) (a_tp_lengths : Nat) (a_tp_fields : Nat) (a_tk : Nat) (a_tk_any : Nat) (a_tk_numbers : Nat) (a_tr : Nat) (a_tr_any : Nat) (a_tr_numbers : Nat) (a_t_isWaiting : Nat) (a_t_waiting : Nat) (a_tp_parameterCounts : Nat) (a_tp_entries : Nat) (a_tk_comeTo : Nat) (t_waitingCount : Int32) (tp_functionCount : Int32) (tp_entryCount : Int32) (tp_lengths : Nat → Int32) (tp_fields : Nat → Int32) (tk_any : Nat → Int32) (tk_numbers : Nat → Int32) (tr_any : Nat → Int32) (tr_numbers : Nat → Int32) : va_W := [(a_t, .inr (0, [.ref a_tp, .ref a_tk, .ref a_tr, .ref a_t_isWaiting, .ref a_t_waiting, .int t_waitingCount])), (a_tp, .inr (4, [.int tp_functionCount, .int tp_entryCount, .ref a_tp_parameterCounts, .ref a_tp_lengths, .ref a_tp_fields, .ref a_tp_entries])), (a_tp_lengths, .inl (cI, 12, .inl tp_lengths)), (a_tp_fields, .inl (cI, 1152, .inl tp_fields)), (a_tk, .inr (1, [.ref a_tk_comeTo, .ref a_tk_any, .ref a_tk_numbers])), (a_tk_any, .inl (cZ, 1224, .inl tk_any)), (a_tk_numbers, .inl (cI, 1224, .inl tk_numbers)), (a_tr, .inr (5, [.ref a_tr_any, .ref a_tr_numbers])), (a_tr_any, .inl (cZ, 6, .inl tr_any)), (a_tr_numbers, .inl (cI, 6, .inl tr_numbers))]
abbrev r_X0_putResult : Room := { frames := 3, cells := 0, slots := 0, locals := 72 }
def f_X0_putResult_41 (x1 : Int32) (x2 : Int32) (x3 : Int32) (tp_entryCount : Int32) (tp_lengths : Nat → Int32) (tp_fields : Nat → Int32) (tk_any : Nat → Int32) (tk_numbers : Nat → Int32) (x4 : Int32) (tr_any : Nat → Int32) (tr_numbers : Nat → Int32) : Option ((Nat → Int32) × (Nat → Int32)) := if x3 ≤ 4 then (f_X0_putComputed x1 x2 x3 tp_lengths tp_fields tk_any tk_numbers tr_any tr_numbers).bind (fun o2 => some (o2.1, o2.2)) else (f_X5_putAny x4 tr_any tr_numbers).bind (fun o3 => some (o3.1, o3.2))
set_option maxHeartbeats 4000000 in
set_option maxRecDepth 100000 in
theorem b_X0_putResult_41 {p : Program} {l : Launch} {e : Env} {s : State} {m : MethodId} {args : Array Value} {below : List Frame} {meth : Method} {c : Code} {tA : Nat} {dC : Nat → ClassId} {dI : Nat → Nat → Nat} {cI cZ cJ : ClassId} {A : Nat → Prop} {a_t : Nat} {a_tp : Nat} {a_tp_lengths : Nat} {a_tp_fields : Nat} {a_tk : Nat} {a_tk_any : Nat} {a_tk_numbers : Nat} {a_tr : Nat} {a_tr_any : Nat} {a_tr_numbers : Nat} {a_t_isWaiting : Nat} {a_t_waiting : Nat} {a_tp_parameterCounts : Nat} {a_tp_entries : Nat} {a_tk_comeTo : Nat} {x1 : Int32} {x2 : Int32} {x3 : Int32} {tp_entryCount : Int32} {tp_lengths : Nat → Int32} {tp_fields : Nat → Int32} {tk_any : Nat → Int32} {tk_numbers : Nat → Int32} {t_waitingCount : Int32} {tp_functionCount : Int32} {x4 : Int32} {tr_any : Nat → Int32} {tr_numbers : Nat → Int32} {out : (Nat → Int32) × (Nat → Int32)} (hC : g_C p s m meth c args cX0_putResult 5 (none : Option Jvm.ClassFile.FieldType) RX0) (hf : f_X0_putResult_41 x1 x2 x3 tp_entryCount tp_lengths tp_fields tk_any tk_numbers x4 tr_any tr_numbers = some out) {H : Heap} {locs : List Loc} {ls : Array Slot} (hW : g_W tA dC dI cI cZ cJ A s H locs (w_X0_putResult cI cZ cJ a_t a_tp a_tp_lengths a_tp_fields a_tk a_tk_any a_tk_numbers a_tr a_tr_any a_tr_numbers a_t_isWaiting a_t_waiting a_tp_parameterCounts a_tp_entries a_tk_comeTo t_waitingCount tp_functionCount tp_entryCount tp_lengths tp_fields tk_any tk_numbers tr_any tr_numbers)) (hl : lv_has ls 5 [(0, .ref a_t), (1, .int x1), (2, .int x2), (3, .int x3), (4, .int x4)]) : W p l e r_X0_putResult s m args below meth c H locs 0 0 (MQ below (g_Qv dC dI cI cZ cJ A (w_X0_putResult cI cZ cJ a_t a_tp a_tp_lengths a_tp_fields a_tk a_tk_any a_tk_numbers a_tr a_tr_any a_tr_numbers a_t_isWaiting a_t_waiting a_tp_parameterCounts a_tp_entries a_tk_comeTo t_waitingCount tp_functionCount tp_entryCount tp_lengths tp_fields tk_any tk_numbers out.1 out.2)) args s 0 0 A) (F0 m 41 ls []) := by
  have hx := hC.1
  have hb := hC.2.1
  have hown := hC.2.2.2.2.1
  have hts := hC.2.2.2.2.2.1
  unfold f_X0_putResult_41 at hf
  refine lv_iload_n hx hb dX0_putResult_41 rfl (lv_at hl 3 rfl) ?_
  refine lv_iconst (v := 4) hx hb dX0_putResult_42 (by decide) ?_
  refine lv_icmp_le (tgt := 58) hx hb dX0_putResult_43 (by decide) (fun c1 => ?_) (fun c1 => ?_)
  · replace hf := (if_pos c1).symm.trans hf
    refine lv_aload_n hx hb dX0_putResult_58 rfl (lv_at hl 0 rfl) ?_
    refine lv_iload_n hx hb dX0_putResult_59 rfl (lv_at hl 1 rfl) ?_
    refine lv_iload_n hx hb dX0_putResult_60 rfl (lv_at hl 2 rfl) ?_
    refine lv_iload_n hx hb dX0_putResult_61 rfl (lv_at hl 3 rfl) ?_
    obtain ⟨o2, h2, hf⟩ := g_bnd hf
    refine gs_callVv (ws' := w_X0_putResult cI cZ cJ a_t a_tp a_tp_lengths a_tp_fields a_tk a_tk_any a_tk_numbers a_tr a_tr_any a_tr_numbers a_t_isWaiting a_t_waiting a_tp_parameterCounts a_tp_entries a_tk_comeTo t_waitingCount tp_functionCount tp_entryCount tp_lengths tp_fields tk_any tk_numbers o2.1 o2.2) hC hW (k_X0_putComputed l tA dC dI cI cZ cJ a_t a_tp a_tp_lengths a_tp_fields a_tk a_tk_any a_tk_numbers a_tr a_tr_any a_tr_numbers a_t_isWaiting a_t_waiting a_tp_parameterCounts a_tp_entries a_tk_comeTo x1 x2 x3 t_waitingCount tp_functionCount tp_entryCount tp_lengths tp_fields tk_any tk_numbers tr_any tr_numbers _ h2) yk_X0_putComputed lk_X0_100 iv_X0_putComputed ⟨rfl, rfl⟩ ⟨Nat.le_of_ble_eq_true rfl, Nat.le_of_ble_eq_true rfl⟩ hl.1 0 rfl rfl [0, 1, 2, 3, 4, 5, 6, 7, 8, 9] [] [0, 1, 2, 3, 4, 5, 6, 7, 8, 9] rfl rfl rfl rfl (by decide) rfl rfl rfl rfl (Nat.le_of_ble_eq_true rfl) dX0_putResult_62 ⟨Nat.zero_le _, Nat.zero_le _⟩ (fun H locs hW => ?_)
    obtain rfl := Option.some.inj hf
    exact gs_rv hC hW rfl dX0_putResult_65
  · replace hf := (if_neg c1).symm.trans hf
    refine lv_aload_n hx hb dX0_putResult_46 rfl (lv_at hl 0 rfl) ?_
    refine gs_get hC hW in_X0 0 2 rfl rfl (by decide) fl_X0_22 rfl dX0_putResult_47 ?_
    refine lv_iload hx hb dX0_putResult_50 (lv_at hl 4 rfl) ?_
    obtain ⟨o3, h3, hf⟩ := g_bnd hf
    refine gs_callVv (ws' := w_X0_putResult cI cZ cJ a_t a_tp a_tp_lengths a_tp_fields a_tk a_tk_any a_tk_numbers a_tr a_tr_any a_tr_numbers a_t_isWaiting a_t_waiting a_tp_parameterCounts a_tp_entries a_tk_comeTo t_waitingCount tp_functionCount tp_entryCount tp_lengths tp_fields tk_any tk_numbers o3.1 o3.2) hC hW (k_X5_putAny l tA dC dI cI cZ cJ a_tr a_tr_any a_tr_numbers x4 tr_any tr_numbers _ h3) yk_X5_putAny lk_X0_94 iv_X5_putAny ⟨rfl, rfl⟩ ⟨Nat.le_of_ble_eq_true rfl, Nat.le_of_ble_eq_true rfl⟩ hl.1 7 rfl rfl [7, 8, 9] [0, 1, 2, 3, 4, 5, 6] [0, 1, 2, 3, 4, 5, 6, 7, 8, 9] rfl rfl rfl rfl (by decide) rfl rfl rfl rfl (Nat.le_of_ble_eq_true rfl) dX0_putResult_52 ⟨Nat.zero_le _, Nat.zero_le _⟩ (fun H locs hW => ?_)
    refine lv_goto (tgt := 65) hx hb dX0_putResult_55 (by decide) ?_
    obtain rfl := Option.some.inj hf
    exact gs_rv hC hW rfl dX0_putResult_65
def f_X0_putResult (x1 : Int32) (x2 : Int32) (x3 : Int32) (tp_entryCount : Int32) (tp_lengths : Nat → Int32) (tp_fields : Nat → Int32) (tk_any : Nat → Int32) (tk_numbers : Nat → Int32) (tr_any : Nat → Int32) (tr_numbers : Nat → Int32) : Option ((Nat → Int32) × (Nat → Int32)) := (f_X4_fieldOf x1 x2 1 tp_fields).bind (fun o4 => if x3 = 11 then if tp_entryCount = 0 then (f_X5_putNumber o4 0 tr_any tr_numbers).bind (fun o7 => some (o7.1, o7.2)) else f_X0_putResult_41 x1 x2 x3 tp_entryCount tp_lengths tp_fields tk_any tk_numbers o4 tr_any tr_numbers else f_X0_putResult_41 x1 x2 x3 tp_entryCount tp_lengths tp_fields tk_any tk_numbers o4 tr_any tr_numbers)
set_option maxHeartbeats 4000000 in
set_option maxRecDepth 100000 in
theorem k_X0_putResult (l : Launch) (tA : Nat) (dC : Nat → ClassId) (dI : Nat → Nat → Nat) (cI cZ cJ : ClassId) (a_t : Nat) (a_tp : Nat) (a_tp_lengths : Nat) (a_tp_fields : Nat) (a_tk : Nat) (a_tk_any : Nat) (a_tk_numbers : Nat) (a_tr : Nat) (a_tr_any : Nat) (a_tr_numbers : Nat) (a_t_isWaiting : Nat) (a_t_waiting : Nat) (a_tp_parameterCounts : Nat) (a_tp_entries : Nat) (a_tk_comeTo : Nat) (x1 : Int32) (x2 : Int32) (x3 : Int32) (t_waitingCount : Int32) (tp_functionCount : Int32) (tp_entryCount : Int32) (tp_lengths : Nat → Int32) (tp_fields : Nat → Int32) (tk_any : Nat → Int32) (tk_numbers : Nat → Int32) (tr_any : Nat → Int32) (tr_numbers : Nat → Int32) (out : (Nat → Int32) × (Nat → Int32)) (hf : f_X0_putResult x1 x2 x3 tp_entryCount tp_lengths tp_fields tk_any tk_numbers tr_any tr_numbers = some out) : g_Mv l yX0_putResult cX0_putResult 5 (none : Option Jvm.ClassFile.FieldType) r_X0_putResult tA dC dI cI cZ cJ [.ref a_t, .int x1, .int x2, .int x3] (w_X0_putResult cI cZ cJ a_t a_tp a_tp_lengths a_tp_fields a_tk a_tk_any a_tk_numbers a_tr a_tr_any a_tr_numbers a_t_isWaiting a_t_waiting a_tp_parameterCounts a_tp_entries a_tk_comeTo t_waitingCount tp_functionCount tp_entryCount tp_lengths tp_fields tk_any tk_numbers tr_any tr_numbers) (w_X0_putResult cI cZ cJ a_t a_tp a_tp_lengths a_tp_fields a_tk a_tk_any a_tk_numbers a_tr a_tr_any a_tr_numbers a_t_isWaiting a_t_waiting a_tp_parameterCounts a_tp_entries a_tk_comeTo t_waitingCount tp_functionCount tp_entryCount tp_lengths tp_fields tk_any tk_numbers out.1 out.2) := by
  unfold f_X0_putResult at hf
  refine ge_v (by decide) (Nat.le_of_ble_eq_true rfl) (fun p e s m below meth c A H locs ls hC hW hl => ?_)
  have hC : g_C p s m meth c _ cX0_putResult 5 (none : Option Jvm.ClassFile.FieldType) RX0 := hC
  have hx := hC.1
  have hb := hC.2.1
  have hown := hC.2.2.2.2.1
  have hts := hC.2.2.2.2.2.1
  have hl : lv_has ls 5 [(0, .ref a_t), (1, .int x1), (2, .int x2), (3, .int x3)] := hl
  refine lv_aload_n hx hb dX0_putResult_0 rfl (lv_at hl 0 rfl) ?_
  refine gs_get hC hW in_X0 0 0 rfl rfl (by decide) fl_X0_9 rfl dX0_putResult_1 ?_
  refine lv_iload_n hx hb dX0_putResult_4 rfl (lv_at hl 1 rfl) ?_
  refine lv_iload_n hx hb dX0_putResult_5 rfl (lv_at hl 2 rfl) ?_
  refine lv_iconst (v := 1) hx hb dX0_putResult_6 (by decide) ?_
  obtain ⟨o4, h4, hf⟩ := g_bnd hf
  refine gs_callVi (ws' := w_X0_putResult cI cZ cJ a_t a_tp a_tp_lengths a_tp_fields a_tk a_tk_any a_tk_numbers a_tr a_tr_any a_tr_numbers a_t_isWaiting a_t_waiting a_tp_parameterCounts a_tp_entries a_tk_comeTo t_waitingCount tp_functionCount tp_entryCount tp_lengths tp_fields tk_any tk_numbers tr_any tr_numbers) hC hW (k_X4_fieldOf l tA dC dI cI cZ cJ a_tp a_tp_fields a_tp_parameterCounts a_tp_lengths a_tp_entries x1 x2 1 tp_functionCount tp_entryCount tp_fields _ h4) yk_X4_fieldOf lk_X0_66 iv_X4_fieldOf ⟨rfl, rfl⟩ ⟨Nat.le_of_ble_eq_true rfl, Nat.le_of_ble_eq_true rfl⟩ hl.1 1 rfl rfl [1, 3] [0, 2, 4, 5, 6, 7, 8, 9] [0, 8, 1, 9, 2, 3, 4, 5, 6, 7] rfl rfl rfl rfl (by decide) rfl rfl rfl rfl (Nat.le_of_ble_eq_true rfl) dX0_putResult_7 ⟨Nat.zero_le _, Nat.zero_le _⟩ (fun H locs hW => ?_)
  refine lv_istore (lv' := [(4, .int o4), (0, .ref a_t), (1, .int x1), (2, .int x2), (3, .int x3)]) hx hb dX0_putResult_10 hl (by decide) rfl (fun ls hl => ?_)
  refine lv_iload_n hx hb dX0_putResult_12 rfl (lv_at hl 4 rfl) ?_
  refine lv_bipush (v := 11) hx hb dX0_putResult_13 (by decide) ?_
  refine lv_icmp_ne (tgt := 41) hx hb dX0_putResult_15 (by decide) (fun c5 => ?_) (fun c5 => ?_)
  · replace hf := (if_neg c5).symm.trans hf
    exact b_X0_putResult_41 hC hf hW (lv_sub hl [1, 2, 3, 4, 0] rfl)
  · replace hf := (if_pos c5).symm.trans hf
    refine lv_aload_n hx hb dX0_putResult_18 rfl (lv_at hl 1 rfl) ?_
    refine gs_get hC hW in_X0 0 0 rfl rfl (by decide) fl_X0_9 rfl dX0_putResult_19 ?_
    refine gs_get hC hW in_X4 1 1 rfl rfl (by decide) fl_X0_97 rfl dX0_putResult_22 ?_
    refine lv_if_ne (tgt := 41) hx hb dX0_putResult_25 (by decide) (fun c6 => ?_) (fun c6 => ?_)
    · replace hf := (if_neg c6).symm.trans hf
      exact b_X0_putResult_41 hC hf hW (lv_sub hl [1, 2, 3, 4, 0] rfl)
    · replace hf := (if_pos c6).symm.trans hf
      refine lv_aload_n hx hb dX0_putResult_28 rfl (lv_at hl 1 rfl) ?_
      refine gs_get hC hW in_X0 0 2 rfl rfl (by decide) fl_X0_22 rfl dX0_putResult_29 ?_
      refine lv_iload hx hb dX0_putResult_32 (lv_at hl 0 rfl) ?_
      refine lv_iconst (v := 0) hx hb dX0_putResult_34 (by decide) ?_
      obtain ⟨o7, h7, hf⟩ := g_bnd hf
      refine gs_callVv (ws' := w_X0_putResult cI cZ cJ a_t a_tp a_tp_lengths a_tp_fields a_tk a_tk_any a_tk_numbers a_tr a_tr_any a_tr_numbers a_t_isWaiting a_t_waiting a_tp_parameterCounts a_tp_entries a_tk_comeTo t_waitingCount tp_functionCount tp_entryCount tp_lengths tp_fields tk_any tk_numbers o7.1 o7.2) hC hW (k_X5_putNumber l tA dC dI cI cZ cJ a_tr a_tr_any a_tr_numbers o4 0 tr_any tr_numbers _ h7) yk_X5_putNumber lk_X0_43 iv_X5_putNumber ⟨rfl, rfl⟩ ⟨Nat.le_of_ble_eq_true rfl, Nat.le_of_ble_eq_true rfl⟩ hl.1 7 rfl rfl [7, 8, 9] [0, 1, 2, 3, 4, 5, 6] [0, 1, 2, 3, 4, 5, 6, 7, 8, 9] rfl rfl rfl rfl (by decide) rfl rfl rfl rfl (Nat.le_of_ble_eq_true rfl) dX0_putResult_35 ⟨Nat.zero_le _, Nat.zero_le _⟩ (fun H locs hW => ?_)
      refine lv_goto (tgt := 65) hx hb dX0_putResult_38 (by decide) ?_
      obtain rfl := Option.some.inj hf
      exact gs_rv hC hW rfl dX0_putResult_65

abbrev w_X0_goOnFromIf (cI cZ cJ : ClassId) (a_t : Nat) (a_tp : Nat) (a_tp_lengths : Nat) (a_tp_fields : Nat) (a_tk : Nat) (a_tk_comeTo : Nat) (a_tk_any : Nat) (a_tk_numbers : Nat) (a_tr : Nat) (a_tr_any : Nat) (a_tr_numbers : Nat) (a_t_isWaiting : Nat) (a_t_waiting : Nat) (a_tp_parameterCounts : Nat) (a_tp_entries : Nat) (t_waitingCount : Int32) (tp_functionCount : Int32) (tp_entryCount : Int32) (tp_lengths : Nat → Int32) (tp_fields : Nat → Int32) (tk_comeTo : Nat → Int32) (tk_any : Nat → Int32) (tk_numbers : Nat → Int32) (tr_any : Nat → Int32) (tr_numbers : Nat → Int32) (t_isWaiting : Nat → Int32) (t_waiting : Nat → Int32) : va_W := [(a_t, .inr (0, [.ref a_tp, .ref a_tk, .ref a_tr, .ref a_t_isWaiting, .ref a_t_waiting, .int t_waitingCount])), (a_tp, .inr (4, [.int tp_functionCount, .int tp_entryCount, .ref a_tp_parameterCounts, .ref a_tp_lengths, .ref a_tp_fields, .ref a_tp_entries])), (a_tp_lengths, .inl (cI, 12, .inl tp_lengths)), (a_tp_fields, .inl (cI, 1152, .inl tp_fields)), (a_tk, .inr (1, [.ref a_tk_comeTo, .ref a_tk_any, .ref a_tk_numbers])), (a_tk_comeTo, .inl (cZ, 204, .inl tk_comeTo)), (a_tk_any, .inl (cZ, 1224, .inl tk_any)), (a_tk_numbers, .inl (cI, 1224, .inl tk_numbers)), (a_tr, .inr (5, [.ref a_tr_any, .ref a_tr_numbers])), (a_tr_any, .inl (cZ, 6, .inl tr_any)), (a_tr_numbers, .inl (cI, 6, .inl tr_numbers)), (a_t_isWaiting, .inl (cZ, 204, .inl t_isWaiting)), (a_t_waiting, .inl (cI, 204, .inl t_waiting))]
abbrev r_X0_goOnFromIf : Room := { frames := 2, cells := 0, slots := 0, locals := 49 }
def f_X0_goOnFromIf_79 (N : Nat) (x1 : Int32) (x2 : Int32) (tp_lengths : Nat → Int32) (tp_fields : Nat → Int32) (tr_any : Nat → Int32) (tr_numbers : Nat → Int32) (x5 : Int32) (x6 : Int32) (t_waitingCount : Int32) (tk_comeTo : Nat → Int32) (tk_any : Nat → Int32) (tk_numbers : Nat → Int32) (t_isWaiting : Nat → Int32) (t_waiting : Nat → Int32) : Option (Int32 × (Nat → Int32) × (Nat → Int32) × (Nat → Int32) × (Nat → Int32) × (Nat → Int32)) := if x6 = 0 then if x5 = 0 then (f_X0_arriveAt N x1 (x2 + 1) t_waitingCount tp_lengths tk_comeTo tk_any tk_numbers tr_any tr_numbers t_isWaiting t_waiting).bind (fun o4 => some (o4.1, o4.2.1, o4.2.2.1, o4.2.2.2.1, o4.2.2.2.2.1, o4.2.2.2.2.2)) else some (t_waitingCount, tk_comeTo, tk_any, tk_numbers, t_isWaiting, t_waiting) else (f_X0_arriveAt N x1 (x2 + 1) t_waitingCount tp_lengths tk_comeTo tk_any tk_numbers tr_any tr_numbers t_isWaiting t_waiting).bind (fun o2 => some (o2.1, o2.2.1, o2.2.2.1, o2.2.2.2.1, o2.2.2.2.2.1, o2.2.2.2.2.2))
set_option maxHeartbeats 4000000 in
set_option maxRecDepth 100000 in
theorem b_X0_goOnFromIf_79 {p : Program} {l : Launch} {e : Env} {s : State} {m : MethodId} {args : Array Value} {below : List Frame} {meth : Method} {c : Code} {tA : Nat} {dC : Nat → ClassId} {dI : Nat → Nat → Nat} {cI cZ cJ : ClassId} {A : Nat → Prop} {a_t : Nat} {a_tp : Nat} {a_tp_lengths : Nat} {a_tp_fields : Nat} {a_tk : Nat} {a_tk_comeTo : Nat} {a_tk_any : Nat} {a_tk_numbers : Nat} {a_tr : Nat} {a_tr_any : Nat} {a_tr_numbers : Nat} {a_t_isWaiting : Nat} {a_t_waiting : Nat} {a_tp_parameterCounts : Nat} {a_tp_entries : Nat} {x1 : Int32} {x2 : Int32} {tp_lengths : Nat → Int32} {tp_fields : Nat → Int32} {tr_any : Nat → Int32} {tr_numbers : Nat → Int32} {tp_functionCount : Int32} {tp_entryCount : Int32} {N : Nat} {x5 : Int32} {x6 : Int32} {t_waitingCount : Int32} {tk_comeTo : Nat → Int32} {tk_any : Nat → Int32} {tk_numbers : Nat → Int32} {t_isWaiting : Nat → Int32} {t_waiting : Nat → Int32} {out : Int32 × (Nat → Int32) × (Nat → Int32) × (Nat → Int32) × (Nat → Int32) × (Nat → Int32)} (hC : g_C p s m meth c args cX0_goOnFromIf 7 (none : Option Jvm.ClassFile.FieldType) RX0) (hf : f_X0_goOnFromIf_79 N x1 x2 tp_lengths tp_fields tr_any tr_numbers x5 x6 t_waitingCount tk_comeTo tk_any tk_numbers t_isWaiting t_waiting = some out) {H : Heap} {locs : List Loc} {ls : Array Slot} (hW : g_W tA dC dI cI cZ cJ A s H locs (w_X0_goOnFromIf cI cZ cJ a_t a_tp a_tp_lengths a_tp_fields a_tk a_tk_comeTo a_tk_any a_tk_numbers a_tr a_tr_any a_tr_numbers a_t_isWaiting a_t_waiting a_tp_parameterCounts a_tp_entries t_waitingCount tp_functionCount tp_entryCount tp_lengths tp_fields tk_comeTo tk_any tk_numbers tr_any tr_numbers t_isWaiting t_waiting)) (hl : lv_has ls 7 [(0, .ref a_t), (1, .int x1), (2, .int x2), (5, .int x5), (6, .int x6)]) : W p l e r_X0_goOnFromIf s m args below meth c H locs 0 0 (MQ below (g_Qv dC dI cI cZ cJ A (w_X0_goOnFromIf cI cZ cJ a_t a_tp a_tp_lengths a_tp_fields a_tk a_tk_comeTo a_tk_any a_tk_numbers a_tr a_tr_any a_tr_numbers a_t_isWaiting a_t_waiting a_tp_parameterCounts a_tp_entries out.1 tp_functionCount tp_entryCount tp_lengths tp_fields out.2.1 out.2.2.1 out.2.2.2.1 tr_any tr_numbers out.2.2.2.2.1 out.2.2.2.2.2)) args s 0 0 A) (F0 m 79 ls []) := by
  have hx := hC.1
  have hb := hC.2.1
  have hown := hC.2.2.2.2.1
  have hts := hC.2.2.2.2.2.1
  unfold f_X0_goOnFromIf_79 at hf
  refine lv_iload hx hb dX0_goOnFromIf_79 (lv_at hl 4 rfl) ?_
  refine lv_if_ne (tgt := 89) hx hb dX0_goOnFromIf_81 (by decide) (fun c1 => ?_) (fun c1 => ?_)
  · replace hf := (if_neg c1).symm.trans hf
    refine lv_aload_n hx hb dX0_goOnFromIf_89 rfl (lv_at hl 0 rfl) ?_
    refine lv_iload_n hx hb dX0_goOnFromIf_90 rfl (lv_at hl 1 rfl) ?_
    refine lv_iload_n hx hb dX0_goOnFromIf_91 rfl (lv_at hl 2 rfl) ?_
    refine lv_iconst (v := 1) hx hb dX0_goOnFromIf_92 (by decide) ?_
    refine lv_iadd hx hb dX0_goOnFromIf_93 ?_
    obtain ⟨o2, h2, hf⟩ := g_bnd hf
    refine gs_callVv (ws' := w_X0_goOnFromIf cI cZ cJ a_t a_tp a_tp_lengths a_tp_fields a_tk a_tk_comeTo a_tk_any a_tk_numbers a_tr a_tr_any a_tr_numbers a_t_isWaiting a_t_waiting a_tp_parameterCounts a_tp_entries o2.1 tp_functionCount tp_entryCount tp_lengths tp_fields o2.2.1 o2.2.2.1 o2.2.2.2.1 tr_any tr_numbers o2.2.2.2.2.1 o2.2.2.2.2.2) hC hW (k_X0_arriveAt l tA dC dI cI cZ cJ a_t a_tp a_tp_lengths a_tk a_tk_comeTo a_tk_any a_tk_numbers a_tr a_tr_any a_tr_numbers a_t_isWaiting a_t_waiting a_tp_parameterCounts a_tp_fields a_tp_entries N x1 (x2 + 1) t_waitingCount tp_functionCount tp_entryCount tp_lengths tk_comeTo tk_any tk_numbers tr_any tr_numbers t_isWaiting t_waiting _ h2) yk_X0_arriveAt lk_X0_47 iv_X0_arriveAt ⟨rfl, rfl⟩ ⟨Nat.le_of_ble_eq_true rfl, Nat.le_of_ble_eq_true rfl⟩ hl.1 0 rfl rfl [0, 1, 2, 4, 5, 6, 7, 8, 9, 10, 11, 12] [3] [1, 2, 3, 0, 4, 5, 6, 7, 8, 9, 10, 11, 12] rfl rfl rfl rfl (by decide) rfl rfl rfl rfl (Nat.le_of_ble_eq_true rfl) dX0_goOnFromIf_94 ⟨Nat.zero_le _, Nat.zero_le _⟩ (fun H locs hW => ?_)
    obtain rfl := Option.some.inj hf
    exact gs_rv hC hW rfl dX0_goOnFromIf_97
  · replace hf := (if_pos c1).symm.trans hf
    refine lv_iload hx hb dX0_goOnFromIf_84 (lv_at hl 3 rfl) ?_
    refine lv_if_ne (tgt := 97) hx hb dX0_goOnFromIf_86 (by decide) (fun c3 => ?_) (fun c3 => ?_)
    · replace hf := (if_neg c3).symm.trans hf
      obtain rfl := Option.some.inj hf
      exact gs_rv hC hW rfl dX0_goOnFromIf_97
    · replace hf := (if_pos c3).symm.trans hf
      refine lv_aload_n hx hb dX0_goOnFromIf_89 rfl (lv_at hl 0 rfl) ?_
      refine lv_iload_n hx hb dX0_goOnFromIf_90 rfl (lv_at hl 1 rfl) ?_
      refine lv_iload_n hx hb dX0_goOnFromIf_91 rfl (lv_at hl 2 rfl) ?_
      refine lv_iconst (v := 1) hx hb dX0_goOnFromIf_92 (by decide) ?_
      refine lv_iadd hx hb dX0_goOnFromIf_93 ?_
      obtain ⟨o4, h4, hf⟩ := g_bnd hf
      refine gs_callVv (ws' := w_X0_goOnFromIf cI cZ cJ a_t a_tp a_tp_lengths a_tp_fields a_tk a_tk_comeTo a_tk_any a_tk_numbers a_tr a_tr_any a_tr_numbers a_t_isWaiting a_t_waiting a_tp_parameterCounts a_tp_entries o4.1 tp_functionCount tp_entryCount tp_lengths tp_fields o4.2.1 o4.2.2.1 o4.2.2.2.1 tr_any tr_numbers o4.2.2.2.2.1 o4.2.2.2.2.2) hC hW (k_X0_arriveAt l tA dC dI cI cZ cJ a_t a_tp a_tp_lengths a_tk a_tk_comeTo a_tk_any a_tk_numbers a_tr a_tr_any a_tr_numbers a_t_isWaiting a_t_waiting a_tp_parameterCounts a_tp_fields a_tp_entries N x1 (x2 + 1) t_waitingCount tp_functionCount tp_entryCount tp_lengths tk_comeTo tk_any tk_numbers tr_any tr_numbers t_isWaiting t_waiting _ h4) yk_X0_arriveAt lk_X0_47 iv_X0_arriveAt ⟨rfl, rfl⟩ ⟨Nat.le_of_ble_eq_true rfl, Nat.le_of_ble_eq_true rfl⟩ hl.1 0 rfl rfl [0, 1, 2, 4, 5, 6, 7, 8, 9, 10, 11, 12] [3] [1, 2, 3, 0, 4, 5, 6, 7, 8, 9, 10, 11, 12] rfl rfl rfl rfl (by decide) rfl rfl rfl rfl (Nat.le_of_ble_eq_true rfl) dX0_goOnFromIf_94 ⟨Nat.zero_le _, Nat.zero_le _⟩ (fun H locs hW => ?_)
      obtain rfl := Option.some.inj hf
      exact gs_rv hC hW rfl dX0_goOnFromIf_97
def f_X0_goOnFromIf_56 (N : Nat) (x1 : Int32) (x2 : Int32) (tp_lengths : Nat → Int32) (tp_fields : Nat → Int32) (tr_any : Nat → Int32) (tr_numbers : Nat → Int32) (x5 : Int32) (t_waitingCount : Int32) (tk_comeTo : Nat → Int32) (tk_any : Nat → Int32) (tk_numbers : Nat → Int32) (t_isWaiting : Nat → Int32) (t_waiting : Nat → Int32) : Option (Int32 × (Nat → Int32) × (Nat → Int32) × (Nat → Int32) × (Nat → Int32) × (Nat → Int32)) := (f_X4_fieldOf x1 x2 2 tp_fields).bind (fun o6 => (f_X0_arriveAt N x1 o6 t_waitingCount tp_lengths tk_comeTo tk_any tk_numbers tr_any tr_numbers t_isWaiting t_waiting).bind (fun o7 => f_X0_goOnFromIf_79 N x1 x2 tp_lengths tp_fields tr_any tr_numbers x5 0 o7.1 o7.2.1 o7.2.2.1 o7.2.2.2.1 o7.2.2.2.2.1 o7.2.2.2.2.2))
set_option maxHeartbeats 4000000 in
set_option maxRecDepth 100000 in
theorem b_X0_goOnFromIf_56 {p : Program} {l : Launch} {e : Env} {s : State} {m : MethodId} {args : Array Value} {below : List Frame} {meth : Method} {c : Code} {tA : Nat} {dC : Nat → ClassId} {dI : Nat → Nat → Nat} {cI cZ cJ : ClassId} {A : Nat → Prop} {a_t : Nat} {a_tp : Nat} {a_tp_lengths : Nat} {a_tp_fields : Nat} {a_tk : Nat} {a_tk_comeTo : Nat} {a_tk_any : Nat} {a_tk_numbers : Nat} {a_tr : Nat} {a_tr_any : Nat} {a_tr_numbers : Nat} {a_t_isWaiting : Nat} {a_t_waiting : Nat} {a_tp_parameterCounts : Nat} {a_tp_entries : Nat} {x1 : Int32} {x2 : Int32} {tp_lengths : Nat → Int32} {tp_fields : Nat → Int32} {tr_any : Nat → Int32} {tr_numbers : Nat → Int32} {tp_functionCount : Int32} {tp_entryCount : Int32} {N : Nat} {x5 : Int32} {t_waitingCount : Int32} {tk_comeTo : Nat → Int32} {tk_any : Nat → Int32} {tk_numbers : Nat → Int32} {t_isWaiting : Nat → Int32} {t_waiting : Nat → Int32} {out : Int32 × (Nat → Int32) × (Nat → Int32) × (Nat → Int32) × (Nat → Int32) × (Nat → Int32)} (hC : g_C p s m meth c args cX0_goOnFromIf 7 (none : Option Jvm.ClassFile.FieldType) RX0) (hf : f_X0_goOnFromIf_56 N x1 x2 tp_lengths tp_fields tr_any tr_numbers x5 t_waitingCount tk_comeTo tk_any tk_numbers t_isWaiting t_waiting = some out) {H : Heap} {locs : List Loc} {ls : Array Slot} (hW : g_W tA dC dI cI cZ cJ A s H locs (w_X0_goOnFromIf cI cZ cJ a_t a_tp a_tp_lengths a_tp_fields a_tk a_tk_comeTo a_tk_any a_tk_numbers a_tr a_tr_any a_tr_numbers a_t_isWaiting a_t_waiting a_tp_parameterCounts a_tp_entries t_waitingCount tp_functionCount tp_entryCount tp_lengths tp_fields tk_comeTo tk_any tk_numbers tr_any tr_numbers t_isWaiting t_waiting)) (hl : lv_has ls 7 [(0, .ref a_t), (1, .int x1), (2, .int x2), (5, .int x5)]) : W p l e r_X0_goOnFromIf s m args below meth c H locs 0 0 (MQ below (g_Qv dC dI cI cZ cJ A (w_X0_goOnFromIf cI cZ cJ a_t a_tp a_tp_lengths a_tp_fields a_tk a_tk_comeTo a_tk_any a_tk_numbers a_tr a_tr_any a_tr_numbers a_t_isWaiting a_t_waiting a_tp_parameterCounts a_tp_entries out.1 tp_functionCount tp_entryCount tp_lengths tp_fields out.2.1 out.2.2.1 out.2.2.2.1 tr_any tr_numbers out.2.2.2.2.1 out.2.2.2.2.2)) args s 0 0 A) (F0 m 56 ls []) := by
  have hx := hC.1
  have hb := hC.2.1
  have hown := hC.2.2.2.2.1
  have hts := hC.2.2.2.2.2.1
  unfold f_X0_goOnFromIf_56 at hf
  refine lv_iconst (v := 0) hx hb dX0_goOnFromIf_56 (by decide) ?_
  refine lv_istore (lv' := [(6, .int 0), (0, .ref a_t), (1, .int x1), (2, .int x2), (5, .int x5)]) hx hb dX0_goOnFromIf_57 hl (by decide) rfl (fun ls hl => ?_)
  refine lv_iload hx hb dX0_goOnFromIf_59 (lv_at hl 0 rfl) ?_
  refine lv_if_ne (tgt := 79) hx hb dX0_goOnFromIf_61 (by decide) (fun c5 => absurd c5 (by decide)) (fun c5 => ?_)
  refine lv_aload_n hx hb dX0_goOnFromIf_64 rfl (lv_at hl 1 rfl) ?_
  refine lv_iload_n hx hb dX0_goOnFromIf_65 rfl (lv_at hl 2 rfl) ?_
  refine lv_aload_n hx hb dX0_goOnFromIf_66 rfl (lv_at hl 1 rfl) ?_
  refine gs_get hC hW in_X0 0 0 rfl rfl (by decide) fl_X0_9 rfl dX0_goOnFromIf_67 ?_
  refine lv_iload_n hx hb dX0_goOnFromIf_70 rfl (lv_at hl 2 rfl) ?_
  refine lv_iload_n hx hb dX0_goOnFromIf_71 rfl (lv_at hl 3 rfl) ?_
  refine lv_iconst (v := 2) hx hb dX0_goOnFromIf_72 (by decide) ?_
  obtain ⟨o6, h6, hf⟩ := g_bnd hf
  refine gs_callVi (ws' := w_X0_goOnFromIf cI cZ cJ a_t a_tp a_tp_lengths a_tp_fields a_tk a_tk_comeTo a_tk_any a_tk_numbers a_tr a_tr_any a_tr_numbers a_t_isWaiting a_t_waiting a_tp_parameterCounts a_tp_entries t_waitingCount tp_functionCount tp_entryCount tp_lengths tp_fields tk_comeTo tk_any tk_numbers tr_any tr_numbers t_isWaiting t_waiting) hC hW (k_X4_fieldOf l tA dC dI cI cZ cJ a_tp a_tp_fields a_tp_parameterCounts a_tp_lengths a_tp_entries x1 x2 2 tp_functionCount tp_entryCount tp_fields _ h6) yk_X4_fieldOf lk_X0_66 iv_X4_fieldOf ⟨rfl, rfl⟩ ⟨Nat.le_of_ble_eq_true rfl, Nat.le_of_ble_eq_true rfl⟩ hl.1 1 rfl rfl [1, 3] [0, 2, 4, 5, 6, 7, 8, 9, 10, 11, 12] [0, 11, 1, 12, 2, 3, 4, 5, 6, 7, 8, 9, 10] rfl rfl rfl rfl (by decide) rfl rfl rfl rfl (Nat.le_of_ble_eq_true rfl) dX0_goOnFromIf_73 ⟨Nat.zero_le _, Nat.zero_le _⟩ (fun H locs hW => ?_)
  obtain ⟨o7, h7, hf⟩ := g_bnd hf
  refine gs_callVv (ws' := w_X0_goOnFromIf cI cZ cJ a_t a_tp a_tp_lengths a_tp_fields a_tk a_tk_comeTo a_tk_any a_tk_numbers a_tr a_tr_any a_tr_numbers a_t_isWaiting a_t_waiting a_tp_parameterCounts a_tp_entries o7.1 tp_functionCount tp_entryCount tp_lengths tp_fields o7.2.1 o7.2.2.1 o7.2.2.2.1 tr_any tr_numbers o7.2.2.2.2.1 o7.2.2.2.2.2) hC hW (k_X0_arriveAt l tA dC dI cI cZ cJ a_t a_tp a_tp_lengths a_tk a_tk_comeTo a_tk_any a_tk_numbers a_tr a_tr_any a_tr_numbers a_t_isWaiting a_t_waiting a_tp_parameterCounts a_tp_fields a_tp_entries N x1 o6 t_waitingCount tp_functionCount tp_entryCount tp_lengths tk_comeTo tk_any tk_numbers tr_any tr_numbers t_isWaiting t_waiting _ h7) yk_X0_arriveAt lk_X0_47 iv_X0_arriveAt ⟨rfl, rfl⟩ ⟨Nat.le_of_ble_eq_true rfl, Nat.le_of_ble_eq_true rfl⟩ hl.1 0 rfl rfl [0, 1, 2, 4, 5, 6, 7, 8, 9, 10, 11, 12] [3] [1, 2, 3, 0, 4, 5, 6, 7, 8, 9, 10, 11, 12] rfl rfl rfl rfl (by decide) rfl rfl rfl rfl (Nat.le_of_ble_eq_true rfl) dX0_goOnFromIf_76 ⟨Nat.zero_le _, Nat.zero_le _⟩ (fun H locs hW => ?_)
  exact b_X0_goOnFromIf_79 hC hf hW (lv_sub hl [1, 2, 3, 4, 0] rfl)
def f_X0_goOnFromIf (N : Nat) (x1 : Int32) (x2 : Int32) (t_waitingCount : Int32) (tp_lengths : Nat → Int32) (tp_fields : Nat → Int32) (tk_comeTo : Nat → Int32) (tk_any : Nat → Int32) (tk_numbers : Nat → Int32) (tr_any : Nat → Int32) (tr_numbers : Nat → Int32) (t_isWaiting : Nat → Int32) (t_waiting : Nat → Int32) : Option (Int32 × (Nat → Int32) × (Nat → Int32) × (Nat → Int32) × (Nat → Int32) × (Nat → Int32)) := (f_X4_placeOf x1 x2 tp_lengths).bind (fun o8 => (f_X4_fieldOf x1 x2 3 tp_fields).bind (fun o9 => (f_X1_hasNumber o8 o9 tk_any).bind (fun o10 => if o10 = 0 then f_X0_goOnFromIf_56 N x1 x2 tp_lengths tp_fields tr_any tr_numbers o10 t_waitingCount tk_comeTo tk_any tk_numbers t_isWaiting t_waiting else (f_X1_numberOf o8 o9 tk_numbers).bind (fun o12 => if o12 = 0 then f_X0_goOnFromIf_79 N x1 x2 tp_lengths tp_fields tr_any tr_numbers o10 1 t_waitingCount tk_comeTo tk_any tk_numbers t_isWaiting t_waiting else f_X0_goOnFromIf_56 N x1 x2 tp_lengths tp_fields tr_any tr_numbers o10 t_waitingCount tk_comeTo tk_any tk_numbers t_isWaiting t_waiting))))
set_option maxHeartbeats 4000000 in
set_option maxRecDepth 100000 in
theorem k_X0_goOnFromIf (l : Launch) (tA : Nat) (dC : Nat → ClassId) (dI : Nat → Nat → Nat) (cI cZ cJ : ClassId) (a_t : Nat) (a_tp : Nat) (a_tp_lengths : Nat) (a_tp_fields : Nat) (a_tk : Nat) (a_tk_comeTo : Nat) (a_tk_any : Nat) (a_tk_numbers : Nat) (a_tr : Nat) (a_tr_any : Nat) (a_tr_numbers : Nat) (a_t_isWaiting : Nat) (a_t_waiting : Nat) (a_tp_parameterCounts : Nat) (a_tp_entries : Nat) (N : Nat) (x1 : Int32) (x2 : Int32) (t_waitingCount : Int32) (tp_functionCount : Int32) (tp_entryCount : Int32) (tp_lengths : Nat → Int32) (tp_fields : Nat → Int32) (tk_comeTo : Nat → Int32) (tk_any : Nat → Int32) (tk_numbers : Nat → Int32) (tr_any : Nat → Int32) (tr_numbers : Nat → Int32) (t_isWaiting : Nat → Int32) (t_waiting : Nat → Int32) (out : Int32 × (Nat → Int32) × (Nat → Int32) × (Nat → Int32) × (Nat → Int32) × (Nat → Int32)) (hf : f_X0_goOnFromIf N x1 x2 t_waitingCount tp_lengths tp_fields tk_comeTo tk_any tk_numbers tr_any tr_numbers t_isWaiting t_waiting = some out) : g_Mv l yX0_goOnFromIf cX0_goOnFromIf 7 (none : Option Jvm.ClassFile.FieldType) r_X0_goOnFromIf tA dC dI cI cZ cJ [.ref a_t, .int x1, .int x2] (w_X0_goOnFromIf cI cZ cJ a_t a_tp a_tp_lengths a_tp_fields a_tk a_tk_comeTo a_tk_any a_tk_numbers a_tr a_tr_any a_tr_numbers a_t_isWaiting a_t_waiting a_tp_parameterCounts a_tp_entries t_waitingCount tp_functionCount tp_entryCount tp_lengths tp_fields tk_comeTo tk_any tk_numbers tr_any tr_numbers t_isWaiting t_waiting) (w_X0_goOnFromIf cI cZ cJ a_t a_tp a_tp_lengths a_tp_fields a_tk a_tk_comeTo a_tk_any a_tk_numbers a_tr a_tr_any a_tr_numbers a_t_isWaiting a_t_waiting a_tp_parameterCounts a_tp_entries out.1 tp_functionCount tp_entryCount tp_lengths tp_fields out.2.1 out.2.2.1 out.2.2.2.1 tr_any tr_numbers out.2.2.2.2.1 out.2.2.2.2.2) := by
  unfold f_X0_goOnFromIf at hf
  refine ge_v (by decide) (Nat.le_of_ble_eq_true rfl) (fun p e s m below meth c A H locs ls hC hW hl => ?_)
  have hC : g_C p s m meth c _ cX0_goOnFromIf 7 (none : Option Jvm.ClassFile.FieldType) RX0 := hC
  have hx := hC.1
  have hb := hC.2.1
  have hown := hC.2.2.2.2.1
  have hts := hC.2.2.2.2.2.1
  have hl : lv_has ls 7 [(0, .ref a_t), (1, .int x1), (2, .int x2)] := hl
  refine lv_aload_n hx hb dX0_goOnFromIf_0 rfl (lv_at hl 0 rfl) ?_
  refine gs_get hC hW in_X0 0 0 rfl rfl (by decide) fl_X0_9 rfl dX0_goOnFromIf_1 ?_
  refine lv_iload_n hx hb dX0_goOnFromIf_4 rfl (lv_at hl 1 rfl) ?_
  refine lv_iload_n hx hb dX0_goOnFromIf_5 rfl (lv_at hl 2 rfl) ?_
  obtain ⟨o8, h8, hf⟩ := g_bnd hf
  refine gs_callVi (ws' := w_X0_goOnFromIf cI cZ cJ a_t a_tp a_tp_lengths a_tp_fields a_tk a_tk_comeTo a_tk_any a_tk_numbers a_tr a_tr_any a_tr_numbers a_t_isWaiting a_t_waiting a_tp_parameterCounts a_tp_entries t_waitingCount tp_functionCount tp_entryCount tp_lengths tp_fields tk_comeTo tk_any tk_numbers tr_any tr_numbers t_isWaiting t_waiting) hC hW (k_X4_placeOf l tA dC dI cI cZ cJ a_tp a_tp_lengths a_tp_parameterCounts a_tp_fields a_tp_entries x1 x2 tp_functionCount tp_entryCount tp_lengths _ h8) yk_X4_placeOf lk_X0_53 iv_X4_placeOf ⟨rfl, rfl⟩ ⟨Nat.le_of_ble_eq_true rfl, Nat.le_of_ble_eq_true rfl⟩ hl.1 1 rfl rfl [1, 2] [0, 3, 4, 5, 6, 7, 8, 9, 10, 11, 12] [0, 11, 12, 1, 2, 3, 4, 5, 6, 7, 8, 9, 10] rfl rfl rfl rfl (by decide) rfl rfl rfl rfl (Nat.le_of_ble_eq_true rfl) dX0_goOnFromIf_6 ⟨Nat.zero_le _, Nat.zero_le _⟩ (fun H locs hW => ?_)
  refine lv_istore_n (lv' := [(3, .int o8), (0, .ref a_t), (1, .int x1), (2, .int x2)]) hx hb dX0_goOnFromIf_9 rfl hl (by decide) rfl (fun ls hl => ?_)
  refine lv_aload_n hx hb dX0_goOnFromIf_10 rfl (lv_at hl 1 rfl) ?_
  refine gs_get hC hW in_X0 0 0 rfl rfl (by decide) fl_X0_9 rfl dX0_goOnFromIf_11 ?_
  refine lv_iload_n hx hb dX0_goOnFromIf_14 rfl (lv_at hl 2 rfl) ?_
  refine lv_iload_n hx hb dX0_goOnFromIf_15 rfl (lv_at hl 3 rfl) ?_
  refine lv_iconst (v := 3) hx hb dX0_goOnFromIf_16 (by decide) ?_
  obtain ⟨o9, h9, hf⟩ := g_bnd hf
  refine gs_callVi (ws' := w_X0_goOnFromIf cI cZ cJ a_t a_tp a_tp_lengths a_tp_fields a_tk a_tk_comeTo a_tk_any a_tk_numbers a_tr a_tr_any a_tr_numbers a_t_isWaiting a_t_waiting a_tp_parameterCounts a_tp_entries t_waitingCount tp_functionCount tp_entryCount tp_lengths tp_fields tk_comeTo tk_any tk_numbers tr_any tr_numbers t_isWaiting t_waiting) hC hW (k_X4_fieldOf l tA dC dI cI cZ cJ a_tp a_tp_fields a_tp_parameterCounts a_tp_lengths a_tp_entries x1 x2 3 tp_functionCount tp_entryCount tp_fields _ h9) yk_X4_fieldOf lk_X0_66 iv_X4_fieldOf ⟨rfl, rfl⟩ ⟨Nat.le_of_ble_eq_true rfl, Nat.le_of_ble_eq_true rfl⟩ hl.1 1 rfl rfl [1, 3] [0, 2, 4, 5, 6, 7, 8, 9, 10, 11, 12] [0, 11, 1, 12, 2, 3, 4, 5, 6, 7, 8, 9, 10] rfl rfl rfl rfl (by decide) rfl rfl rfl rfl (Nat.le_of_ble_eq_true rfl) dX0_goOnFromIf_17 ⟨Nat.zero_le _, Nat.zero_le _⟩ (fun H locs hW => ?_)
  refine lv_istore (lv' := [(4, .int o9), (3, .int o8), (0, .ref a_t), (1, .int x1), (2, .int x2)]) hx hb dX0_goOnFromIf_20 hl (by decide) rfl (fun ls hl => ?_)
  refine lv_aload_n hx hb dX0_goOnFromIf_22 rfl (lv_at hl 2 rfl) ?_
  refine gs_get hC hW in_X0 0 1 rfl rfl (by decide) fl_X0_15 rfl dX0_goOnFromIf_23 ?_
  refine lv_iload_n hx hb dX0_goOnFromIf_26 rfl (lv_at hl 1 rfl) ?_
  refine lv_iload hx hb dX0_goOnFromIf_27 (lv_at hl 0 rfl) ?_
  obtain ⟨o10, h10, hf⟩ := g_bnd hf
  refine gs_callVi (ws' := w_X0_goOnFromIf cI cZ cJ a_t a_tp a_tp_lengths a_tp_fields a_tk a_tk_comeTo a_tk_any a_tk_numbers a_tr a_tr_any a_tr_numbers a_t_isWaiting a_t_waiting a_tp_parameterCounts a_tp_entries t_waitingCount tp_functionCount tp_entryCount tp_lengths tp_fields tk_comeTo tk_any tk_numbers tr_any tr_numbers t_isWaiting t_waiting) hC hW (k_X1_hasNumber l tA dC dI cI cZ cJ a_tk a_tk_any a_tk_comeTo a_tk_numbers o8 o9 tk_any _ h10) yk_X1_hasNumber lk_X0_87 iv_X1_hasNumber ⟨rfl, rfl⟩ ⟨Nat.le_of_ble_eq_true rfl, Nat.le_of_ble_eq_true rfl⟩ hl.1 4 rfl rfl [4, 6] [0, 1, 2, 3, 5, 7, 8, 9, 10, 11, 12] [0, 1, 2, 3, 11, 4, 12, 5, 6, 7, 8, 9, 10] rfl rfl rfl rfl (by decide) rfl rfl rfl rfl (Nat.le_of_ble_eq_true rfl) dX0_goOnFromIf_29 ⟨Nat.zero_le _, Nat.zero_le _⟩ (fun H locs hW => ?_)
  refine lv_istore (lv' := [(5, .int o10), (4, .int o9), (3, .int o8), (0, .ref a_t), (1, .int x1), (2, .int x2)]) hx hb dX0_goOnFromIf_32 hl (by decide) rfl (fun ls hl => ?_)
  refine lv_iload hx hb dX0_goOnFromIf_34 (lv_at hl 0 rfl) ?_
  refine lv_if_eq (tgt := 56) hx hb dX0_goOnFromIf_36 (by decide) (fun c11 => ?_) (fun c11 => ?_)
  · replace hf := (if_pos c11).symm.trans hf
    exact b_X0_goOnFromIf_56 hC hf hW (lv_sub hl [3, 4, 5, 0] rfl)
  · replace hf := (if_neg c11).symm.trans hf
    refine lv_aload_n hx hb dX0_goOnFromIf_39 rfl (lv_at hl 3 rfl) ?_
    refine gs_get hC hW in_X0 0 1 rfl rfl (by decide) fl_X0_15 rfl dX0_goOnFromIf_40 ?_
    refine lv_iload_n hx hb dX0_goOnFromIf_43 rfl (lv_at hl 2 rfl) ?_
    refine lv_iload hx hb dX0_goOnFromIf_44 (lv_at hl 1 rfl) ?_
    obtain ⟨o12, h12, hf⟩ := g_bnd hf
    refine gs_callVi (ws' := w_X0_goOnFromIf cI cZ cJ a_t a_tp a_tp_lengths a_tp_fields a_tk a_tk_comeTo a_tk_any a_tk_numbers a_tr a_tr_any a_tr_numbers a_t_isWaiting a_t_waiting a_tp_parameterCounts a_tp_entries t_waitingCount tp_functionCount tp_entryCount tp_lengths tp_fields tk_comeTo tk_any tk_numbers tr_any tr_numbers t_isWaiting t_waiting) hC hW (k_X1_numberOf l tA dC dI cI cZ cJ a_tk a_tk_numbers a_tk_comeTo a_tk_any o8 o9 tk_numbers _ h12) yk_X1_numberOf lk_X0_91 iv_X1_numberOf ⟨rfl, rfl⟩ ⟨Nat.le_of_ble_eq_true rfl, Nat.le_of_ble_eq_true rfl⟩ hl.1 4 rfl rfl [4, 7] [0, 1, 2, 3, 5, 6, 8, 9, 10, 11, 12] [0, 1, 2, 3, 11, 4, 5, 12, 6, 7, 8, 9, 10] rfl rfl rfl rfl (by decide) rfl rfl rfl rfl (Nat.le_of_ble_eq_true rfl) dX0_goOnFromIf_46 ⟨Nat.zero_le _, Nat.zero_le _⟩ (fun H locs hW => ?_)
    refine lv_if_ne (tgt := 56) hx hb dX0_goOnFromIf_49 (by decide) (fun c13 => ?_) (fun c13 => ?_)
    · replace hf := (if_neg c13).symm.trans hf
      exact b_X0_goOnFromIf_56 hC hf hW (lv_sub hl [3, 4, 5, 0] rfl)
    · replace hf := (if_pos c13).symm.trans hf
      refine lv_iconst (v := 1) hx hb dX0_goOnFromIf_52 (by decide) ?_
      refine lv_goto (tgt := 57) hx hb dX0_goOnFromIf_53 (by decide) ?_
      refine lv_istore (lv' := [(6, .int 1), (5, .int o10), (4, .int o9), (3, .int o8), (0, .ref a_t), (1, .int x1), (2, .int x2)]) hx hb dX0_goOnFromIf_57 hl (by decide) rfl (fun ls hl => ?_)
      refine lv_iload hx hb dX0_goOnFromIf_59 (lv_at hl 0 rfl) ?_
      refine lv_if_ne (tgt := 79) hx hb dX0_goOnFromIf_61 (by decide) (fun c14 => ?_) (fun c14 => absurd c14 (by decide))
      exact b_X0_goOnFromIf_79 hC hf hW (lv_sub hl [4, 5, 6, 1, 0] rfl)

abbrev w_X0_goOnFrom (cI cZ cJ : ClassId) (a_t : Nat) (a_tp : Nat) (a_tp_parameterCounts : Nat) (a_tp_lengths : Nat) (a_tp_fields : Nat) (a_tp_entries : Nat) (a_tk : Nat) (a_tk_comeTo : Nat) (a_tk_any : Nat) (a_tk_numbers : Nat) (a_tr : Nat) (a_tr_any : Nat) (a_tr_numbers : Nat) (a_t_isWaiting : Nat) (a_t_waiting : Nat) (t_waitingCount : Int32) (tp_functionCount : Int32) (tp_entryCount : Int32) (tp_parameterCounts : Nat → Int32) (tp_lengths : Nat → Int32) (tp_fields : Nat → Int32) (tp_entries : Nat → Int32) (tk_comeTo : Nat → Int32) (tk_any : Nat → Int32) (tk_numbers : Nat → Int32) (tr_any : Nat → Int32) (tr_numbers : Nat → Int32) (t_isWaiting : Nat → Int32) (t_waiting : Nat → Int32) : va_W := [(a_t, .inr (0, [.ref a_tp, .ref a_tk, .ref a_tr, .ref a_t_isWaiting, .ref a_t_waiting, .int t_waitingCount])), (a_tp, .inr (4, [.int tp_functionCount, .int tp_entryCount, .ref a_tp_parameterCounts, .ref a_tp_lengths, .ref a_tp_fields, .ref a_tp_entries])), (a_tp_parameterCounts, .inl (cI, 12, .inl tp_parameterCounts)), (a_tp_lengths, .inl (cI, 12, .inl tp_lengths)), (a_tp_fields, .inl (cI, 1152, .inl tp_fields)), (a_tp_entries, .inl (cI, 4, .inl tp_entries)), (a_tk, .inr (1, [.ref a_tk_comeTo, .ref a_tk_any, .ref a_tk_numbers])), (a_tk_comeTo, .inl (cZ, 204, .inl tk_comeTo)), (a_tk_any, .inl (cZ, 1224, .inl tk_any)), (a_tk_numbers, .inl (cI, 1224, .inl tk_numbers)), (a_tr, .inr (5, [.ref a_tr_any, .ref a_tr_numbers])), (a_tr_any, .inl (cZ, 6, .inl tr_any)), (a_tr_numbers, .inl (cI, 6, .inl tr_numbers)), (a_t_isWaiting, .inl (cZ, 204, .inl t_isWaiting)), (a_t_waiting, .inl (cI, 204, .inl t_waiting))]
abbrev r_X0_goOnFrom : Room := { frames := 4, cells := 0, slots := 0, locals := 100 }
def f_X0_goOnFrom_44 (N : Nat) (x1 : Int32) (x2 : Int32) (tp_entryCount : Int32) (tp_parameterCounts : Nat → Int32) (tp_lengths : Nat → Int32) (tp_fields : Nat → Int32) (tp_entries : Nat → Int32) (x3 : Int32) (t_waitingCount : Int32) (tk_comeTo : Nat → Int32) (tk_any : Nat → Int32) (tk_numbers : Nat → Int32) (tr_any : Nat → Int32) (tr_numbers : Nat → Int32) (t_isWaiting : Nat → Int32) (t_waiting : Nat → Int32) : Option (Int32 × (Nat → Int32) × (Nat → Int32) × (Nat → Int32) × (Nat → Int32) × (Nat → Int32) × (Nat → Int32) × (Nat → Int32)) := (f_X4_placeOf x1 x2 tp_lengths).bind (fun o1 => (f_X0_takeRegisters N o1 tk_any tk_numbers tr_any tr_numbers).bind (fun o2 => if x3 = 6 then (f_X0_arriveAt N x1 (x2 + 1) t_waitingCount tp_lengths tk_comeTo tk_any tk_numbers o2.1 o2.2 t_isWaiting t_waiting).bind (fun o4 => some (o4.1, o4.2.1, o4.2.2.1, o4.2.2.2.1, o2.1, o2.2, o4.2.2.2.2.1, o4.2.2.2.2.2)) else if x3 = 7 then (f_X0_goOnFromIf N x1 x2 t_waitingCount tp_lengths tp_fields tk_comeTo tk_any tk_numbers o2.1 o2.2 t_isWaiting t_waiting).bind (fun o6 => some (o6.1, o6.2.1, o6.2.2.1, o6.2.2.2.1, o2.1, o2.2, o6.2.2.2.2.1, o6.2.2.2.2.2)) else if x3 = 8 then (f_X4_fieldOf x1 x2 2 tp_fields).bind (fun o8 => (f_X0_arriveAt N x1 o8 t_waitingCount tp_lengths tk_comeTo tk_any tk_numbers o2.1 o2.2 t_isWaiting t_waiting).bind (fun o9 => some (o9.1, o9.2.1, o9.2.2.1, o9.2.2.2.1, o2.1, o2.2, o9.2.2.2.2.1, o9.2.2.2.2.2))) else if x3 = 9 then some (t_waitingCount, tk_comeTo, tk_any, tk_numbers, o2.1, o2.2, t_isWaiting, t_waiting) else if x3 = 12 then (f_X0_arriveAt N x1 (x2 + 1) t_waitingCount tp_lengths tk_comeTo tk_any tk_numbers o2.1 o2.2 t_isWaiting t_waiting).bind (fun o12 => some (o12.1, o12.2.1, o12.2.2.1, o12.2.2.2.1, o2.1, o2.2, o12.2.2.2.2.1, o12.2.2.2.2.2)) else (f_X0_putResult x1 x2 x3 tp_entryCount tp_lengths tp_fields tk_any tk_numbers o2.1 o2.2).bind (fun o13 => (f_X0_arriveAt N x1 (x2 + 1) t_waitingCount tp_lengths tk_comeTo tk_any tk_numbers o13.1 o13.2 t_isWaiting t_waiting).bind (fun o14 => some (o14.1, o14.2.1, o14.2.2.1, o14.2.2.2.1, o13.1, o13.2, o14.2.2.2.2.1, o14.2.2.2.2.2)))))
set_option maxHeartbeats 4000000 in
set_option maxRecDepth 100000 in
theorem b_X0_goOnFrom_44 {p : Program} {l : Launch} {e : Env} {s : State} {m : MethodId} {args : Array Value} {below : List Frame} {meth : Method} {c : Code} {tA : Nat} {dC : Nat → ClassId} {dI : Nat → Nat → Nat} {cI cZ cJ : ClassId} {A : Nat → Prop} {a_t : Nat} {a_tp : Nat} {a_tp_parameterCounts : Nat} {a_tp_lengths : Nat} {a_tp_fields : Nat} {a_tp_entries : Nat} {a_tk : Nat} {a_tk_comeTo : Nat} {a_tk_any : Nat} {a_tk_numbers : Nat} {a_tr : Nat} {a_tr_any : Nat} {a_tr_numbers : Nat} {a_t_isWaiting : Nat} {a_t_waiting : Nat} {x1 : Int32} {x2 : Int32} {tp_entryCount : Int32} {tp_parameterCounts : Nat → Int32} {tp_lengths : Nat → Int32} {tp_fields : Nat → Int32} {tp_entries : Nat → Int32} {tp_functionCount : Int32} {N : Nat} {x3 : Int32} {t_waitingCount : Int32} {tk_comeTo : Nat → Int32} {tk_any : Nat → Int32} {tk_numbers : Nat → Int32} {tr_any : Nat → Int32} {tr_numbers : Nat → Int32} {t_isWaiting : Nat → Int32} {t_waiting : Nat → Int32} {out : Int32 × (Nat → Int32) × (Nat → Int32) × (Nat → Int32) × (Nat → Int32) × (Nat → Int32) × (Nat → Int32) × (Nat → Int32)} (hC : g_C p s m meth c args cX0_goOnFrom 4 (none : Option Jvm.ClassFile.FieldType) RX0) (hf : f_X0_goOnFrom_44 N x1 x2 tp_entryCount tp_parameterCounts tp_lengths tp_fields tp_entries x3 t_waitingCount tk_comeTo tk_any tk_numbers tr_any tr_numbers t_isWaiting t_waiting = some out) {H : Heap} {locs : List Loc} {ls : Array Slot} (hW : g_W tA dC dI cI cZ cJ A s H locs (w_X0_goOnFrom cI cZ cJ a_t a_tp a_tp_parameterCounts a_tp_lengths a_tp_fields a_tp_entries a_tk a_tk_comeTo a_tk_any a_tk_numbers a_tr a_tr_any a_tr_numbers a_t_isWaiting a_t_waiting t_waitingCount tp_functionCount tp_entryCount tp_parameterCounts tp_lengths tp_fields tp_entries tk_comeTo tk_any tk_numbers tr_any tr_numbers t_isWaiting t_waiting)) (hl : lv_has ls 4 [(0, .ref a_t), (1, .int x1), (2, .int x2), (3, .int x3)]) : W p l e r_X0_goOnFrom s m args below meth c H locs 0 0 (MQ below (g_Qv dC dI cI cZ cJ A (w_X0_goOnFrom cI cZ cJ a_t a_tp a_tp_parameterCounts a_tp_lengths a_tp_fields a_tp_entries a_tk a_tk_comeTo a_tk_any a_tk_numbers a_tr a_tr_any a_tr_numbers a_t_isWaiting a_t_waiting out.1 tp_functionCount tp_entryCount tp_parameterCounts tp_lengths tp_fields tp_entries out.2.1 out.2.2.1 out.2.2.2.1 out.2.2.2.2.1 out.2.2.2.2.2.1 out.2.2.2.2.2.2.1 out.2.2.2.2.2.2.2)) args s 0 0 A) (F0 m 44 ls []) := by
  have hx := hC.1
  have hb := hC.2.1
  have hown := hC.2.2.2.2.1
  have hts := hC.2.2.2.2.2.1
  unfold f_X0_goOnFrom_44 at hf
  refine lv_aload_n hx hb dX0_goOnFrom_44 rfl (lv_at hl 0 rfl) ?_
  refine lv_aload_n hx hb dX0_goOnFrom_45 rfl (lv_at hl 0 rfl) ?_
  refine gs_get hC hW in_X0 0 0 rfl rfl (by decide) fl_X0_9 rfl dX0_goOnFrom_46 ?_
  refine lv_iload_n hx hb dX0_goOnFrom_49 rfl (lv_at hl 1 rfl) ?_
  refine lv_iload_n hx hb dX0_goOnFrom_50 rfl (lv_at hl 2 rfl) ?_
  obtain ⟨o1, h1, hf⟩ := g_bnd hf
  refine gs_callVi (ws' := w_X0_goOnFrom cI cZ cJ a_t a_tp a_tp_parameterCounts a_tp_lengths a_tp_fields a_tp_entries a_tk a_tk_comeTo a_tk_any a_tk_numbers a_tr a_tr_any a_tr_numbers a_t_isWaiting a_t_waiting t_waitingCount tp_functionCount tp_entryCount tp_parameterCounts tp_lengths tp_fields tp_entries tk_comeTo tk_any tk_numbers tr_any tr_numbers t_isWaiting t_waiting) hC hW (k_X4_placeOf l tA dC dI cI cZ cJ a_tp a_tp_lengths a_tp_parameterCounts a_tp_fields a_tp_entries x1 x2 tp_functionCount tp_entryCount tp_lengths _ h1) yk_X4_placeOf lk_X0_53 iv_X4_placeOf ⟨rfl, rfl⟩ ⟨Nat.le_of_ble_eq_true rfl, Nat.le_of_ble_eq_true rfl⟩ hl.1 1 rfl rfl [1, 3] [0, 2, 4, 5, 6, 7, 8, 9, 10, 11, 12, 13, 14] [0, 13, 1, 14, 2, 3, 4, 5, 6, 7, 8, 9, 10, 11, 12] rfl rfl rfl rfl (by decide) rfl rfl rfl rfl (Nat.le_of_ble_eq_true rfl) dX0_goOnFrom_51 ⟨Nat.zero_le _, Nat.zero_le _⟩ (fun H locs hW => ?_)
  obtain ⟨o2, h2, hf⟩ := g_bnd hf
  refine gs_callVv (ws' := w_X0_goOnFrom cI cZ cJ a_t a_tp a_tp_parameterCounts a_tp_lengths a_tp_fields a_tp_entries a_tk a_tk_comeTo a_tk_any a_tk_numbers a_tr a_tr_any a_tr_numbers a_t_isWaiting a_t_waiting t_waitingCount tp_functionCount tp_entryCount tp_parameterCounts tp_lengths tp_fields tp_entries tk_comeTo tk_any tk_numbers o2.1 o2.2 t_isWaiting t_waiting) hC hW (k_X0_takeRegisters l tA dC dI cI cZ cJ a_t a_tk a_tk_any a_tk_numbers a_tr a_tr_any a_tr_numbers a_tp a_t_isWaiting a_t_waiting a_tk_comeTo N o1 t_waitingCount tk_any tk_numbers tr_any tr_numbers _ h2) yk_X0_takeRegisters lk_X0_74 iv_X0_takeRegisters ⟨rfl, rfl⟩ ⟨Nat.le_of_ble_eq_true rfl, Nat.le_of_ble_eq_true rfl⟩ hl.1 0 rfl rfl [0, 6, 8, 9, 10, 11, 12] [1, 2, 3, 4, 5, 7, 13, 14] [8, 0, 1, 2, 3, 4, 9, 5, 10, 11, 12, 13, 14, 6, 7] rfl rfl rfl rfl (by decide) rfl rfl rfl rfl (Nat.le_of_ble_eq_true rfl) dX0_goOnFrom_54 ⟨Nat.zero_le _, Nat.zero_le _⟩ (fun H locs hW => ?_)
  refine lv_iload_n hx hb dX0_goOnFrom_57 rfl (lv_at hl 3 rfl) ?_
  by_cases c3 : x3 = 6
  · replace hf := (if_pos c3).symm.trans hf
    refine lv_tableIn (off := 72) (tgt := 130) hx hb dX0_goOnFrom_58 (by rw [c3]; decide) (by rw [c3]; decide) (by rw [c3]; decide) (by decide) ?_
    refine lv_aload_n hx hb dX0_goOnFrom_130 rfl (lv_at hl 0 rfl) ?_
    refine lv_iload_n hx hb dX0_goOnFrom_131 rfl (lv_at hl 1 rfl) ?_
    refine lv_iload_n hx hb dX0_goOnFrom_132 rfl (lv_at hl 2 rfl) ?_
    refine lv_iconst (v := 1) hx hb dX0_goOnFrom_133 (by decide) ?_
    refine lv_iadd hx hb dX0_goOnFrom_134 ?_
    obtain ⟨o4, h4, hf⟩ := g_bnd hf
    refine gs_callVv (ws' := w_X0_goOnFrom cI cZ cJ a_t a_tp a_tp_parameterCounts a_tp_lengths a_tp_fields a_tp_entries a_tk a_tk_comeTo a_tk_any a_tk_numbers a_tr a_tr_any a_tr_numbers a_t_isWaiting a_t_waiting o4.1 tp_functionCount tp_entryCount tp_parameterCounts tp_lengths tp_fields tp_entries o4.2.1 o4.2.2.1 o4.2.2.2.1 o2.1 o2.2 o4.2.2.2.2.1 o4.2.2.2.2.2) hC hW (k_X0_arriveAt l tA dC dI cI cZ cJ a_t a_tp a_tp_lengths a_tk a_tk_comeTo a_tk_any a_tk_numbers a_tr a_tr_any a_tr_numbers a_t_isWaiting a_t_waiting a_tp_parameterCounts a_tp_fields a_tp_entries N x1 (x2 + 1) t_waitingCount tp_functionCount tp_entryCount tp_lengths tk_comeTo tk_any tk_numbers o2.1 o2.2 t_isWaiting t_waiting _ h4) yk_X0_arriveAt lk_X0_47 iv_X0_arriveAt ⟨rfl, rfl⟩ ⟨Nat.le_of_ble_eq_true rfl, Nat.le_of_ble_eq_true rfl⟩ hl.1 0 rfl rfl [0, 1, 3, 6, 7, 8, 9, 10, 11, 12, 13, 14] [2, 4, 5] [3, 4, 0, 5, 1, 2, 6, 7, 8, 9, 10, 11, 12, 13, 14] rfl rfl rfl rfl (by decide) rfl rfl rfl rfl (Nat.le_of_ble_eq_true rfl) dX0_goOnFrom_135 ⟨Nat.zero_le _, Nat.zero_le _⟩ (fun H locs hW => ?_)
    refine lv_goto (tgt := 156) hx hb dX0_goOnFrom_138 (by decide) ?_
    obtain rfl := Option.some.inj hf
    exact gs_rv hC hW rfl dX0_goOnFrom_156
  · replace hf := (if_neg c3).symm.trans hf
    by_cases c5 : x3 = 7
    · replace hf := (if_pos c5).symm.trans hf
      refine lv_tableIn (off := 63) (tgt := 121) hx hb dX0_goOnFrom_58 (by rw [c5]; decide) (by rw [c5]; decide) (by rw [c5]; decide) (by decide) ?_
      refine lv_aload_n hx hb dX0_goOnFrom_121 rfl (lv_at hl 0 rfl) ?_
      refine lv_iload_n hx hb dX0_goOnFrom_122 rfl (lv_at hl 1 rfl) ?_
      refine lv_iload_n hx hb dX0_goOnFrom_123 rfl (lv_at hl 2 rfl) ?_
      obtain ⟨o6, h6, hf⟩ := g_bnd hf
      refine gs_callVv (ws' := w_X0_goOnFrom cI cZ cJ a_t a_tp a_tp_parameterCounts a_tp_lengths a_tp_fields a_tp_entries a_tk a_tk_comeTo a_tk_any a_tk_numbers a_tr a_tr_any a_tr_numbers a_t_isWaiting a_t_waiting o6.1 tp_functionCount tp_entryCount tp_parameterCounts tp_lengths tp_fields tp_entries o6.2.1 o6.2.2.1 o6.2.2.2.1 o2.1 o2.2 o6.2.2.2.2.1 o6.2.2.2.2.2) hC hW (k_X0_goOnFromIf l tA dC dI cI cZ cJ a_t a_tp a_tp_lengths a_tp_fields a_tk a_tk_comeTo a_tk_any a_tk_numbers a_tr a_tr_any a_tr_numbers a_t_isWaiting a_t_waiting a_tp_parameterCounts a_tp_entries N x1 x2 t_waitingCount tp_functionCount tp_entryCount tp_lengths tp_fields tk_comeTo tk_any tk_numbers o2.1 o2.2 t_isWaiting t_waiting _ h6) yk_X0_goOnFromIf lk_X0_78 iv_X0_goOnFromIf ⟨rfl, rfl⟩ ⟨Nat.le_of_ble_eq_true rfl, Nat.le_of_ble_eq_true rfl⟩ hl.1 0 rfl rfl [0, 1, 3, 4, 6, 7, 8, 9, 10, 11, 12, 13, 14] [2, 5] [2, 3, 0, 4, 5, 1, 6, 7, 8, 9, 10, 11, 12, 13, 14] rfl rfl rfl rfl (by decide) rfl rfl rfl rfl (Nat.le_of_ble_eq_true rfl) dX0_goOnFrom_124 ⟨Nat.zero_le _, Nat.zero_le _⟩ (fun H locs hW => ?_)
      refine lv_goto (tgt := 156) hx hb dX0_goOnFrom_127 (by decide) ?_
      obtain rfl := Option.some.inj hf
      exact gs_rv hC hW rfl dX0_goOnFrom_156
    · replace hf := (if_neg c5).symm.trans hf
      by_cases c7 : x3 = 8
      · replace hf := (if_pos c7).symm.trans hf
        refine lv_tableIn (off := 45) (tgt := 103) hx hb dX0_goOnFrom_58 (by rw [c7]; decide) (by rw [c7]; decide) (by rw [c7]; decide) (by decide) ?_
        refine lv_aload_n hx hb dX0_goOnFrom_103 rfl (lv_at hl 0 rfl) ?_
        refine lv_iload_n hx hb dX0_goOnFrom_104 rfl (lv_at hl 1 rfl) ?_
        refine lv_aload_n hx hb dX0_goOnFrom_105 rfl (lv_at hl 0 rfl) ?_
        refine gs_get hC hW in_X0 0 0 rfl rfl (by decide) fl_X0_9 rfl dX0_goOnFrom_106 ?_
        refine lv_iload_n hx hb dX0_goOnFrom_109 rfl (lv_at hl 1 rfl) ?_
        refine lv_iload_n hx hb dX0_goOnFrom_110 rfl (lv_at hl 2 rfl) ?_
        refine lv_iconst (v := 2) hx hb dX0_goOnFrom_111 (by decide) ?_
        obtain ⟨o8, h8, hf⟩ := g_bnd hf
        refine gs_callVi (ws' := w_X0_goOnFrom cI cZ cJ a_t a_tp a_tp_parameterCounts a_tp_lengths a_tp_fields a_tp_entries a_tk a_tk_comeTo a_tk_any a_tk_numbers a_tr a_tr_any a_tr_numbers a_t_isWaiting a_t_waiting t_waitingCount tp_functionCount tp_entryCount tp_parameterCounts tp_lengths tp_fields tp_entries tk_comeTo tk_any tk_numbers o2.1 o2.2 t_isWaiting t_waiting) hC hW (k_X4_fieldOf l tA dC dI cI cZ cJ a_tp a_tp_fields a_tp_parameterCounts a_tp_lengths a_tp_entries x1 x2 2 tp_functionCount tp_entryCount tp_fields _ h8) yk_X4_fieldOf lk_X0_66 iv_X4_fieldOf ⟨rfl, rfl⟩ ⟨Nat.le_of_ble_eq_true rfl, Nat.le_of_ble_eq_true rfl⟩ hl.1 1 rfl rfl [1, 4] [0, 2, 3, 5, 6, 7, 8, 9, 10, 11, 12, 13, 14] [0, 13, 1, 2, 14, 3, 4, 5, 6, 7, 8, 9, 10, 11, 12] rfl rfl rfl rfl (by decide) rfl rfl rfl rfl (Nat.le_of_ble_eq_true rfl) dX0_goOnFrom_112 ⟨Nat.zero_le _, Nat.zero_le _⟩ (fun H locs hW => ?_)
        obtain ⟨o9, h9, hf⟩ := g_bnd hf
        refine gs_callVv (ws' := w_X0_goOnFrom cI cZ cJ a_t a_tp a_tp_parameterCounts a_tp_lengths a_tp_fields a_tp_entries a_tk a_tk_comeTo a_tk_any a_tk_numbers a_tr a_tr_any a_tr_numbers a_t_isWaiting a_t_waiting o9.1 tp_functionCount tp_entryCount tp_parameterCounts tp_lengths tp_fields tp_entries o9.2.1 o9.2.2.1 o9.2.2.2.1 o2.1 o2.2 o9.2.2.2.2.1 o9.2.2.2.2.2) hC hW (k_X0_arriveAt l tA dC dI cI cZ cJ a_t a_tp a_tp_lengths a_tk a_tk_comeTo a_tk_any a_tk_numbers a_tr a_tr_any a_tr_numbers a_t_isWaiting a_t_waiting a_tp_parameterCounts a_tp_fields a_tp_entries N x1 o8 t_waitingCount tp_functionCount tp_entryCount tp_lengths tk_comeTo tk_any tk_numbers o2.1 o2.2 t_isWaiting t_waiting _ h9) yk_X0_arriveAt lk_X0_47 iv_X0_arriveAt ⟨rfl, rfl⟩ ⟨Nat.le_of_ble_eq_true rfl, Nat.le_of_ble_eq_true rfl⟩ hl.1 0 rfl rfl [0, 1, 3, 6, 7, 8, 9, 10, 11, 12, 13, 14] [2, 4, 5] [3, 4, 0, 5, 1, 2, 6, 7, 8, 9, 10, 11, 12, 13, 14] rfl rfl rfl rfl (by decide) rfl rfl rfl rfl (Nat.le_of_ble_eq_true rfl) dX0_goOnFrom_115 ⟨Nat.zero_le _, Nat.zero_le _⟩ (fun H locs hW => ?_)
        refine lv_goto (tgt := 156) hx hb dX0_goOnFrom_118 (by decide) ?_
        obtain rfl := Option.some.inj hf
        exact gs_rv hC hW rfl dX0_goOnFrom_156
      · replace hf := (if_neg c7).symm.trans hf
        by_cases c10 : x3 = 9
        · replace hf := (if_pos c10).symm.trans hf
          refine lv_tableIn (off := 42) (tgt := 100) hx hb dX0_goOnFrom_58 (by rw [c10]; decide) (by rw [c10]; decide) (by rw [c10]; decide) (by decide) ?_
          refine lv_goto (tgt := 156) hx hb dX0_goOnFrom_100 (by decide) ?_
          obtain rfl := Option.some.inj hf
          exact gs_rv hC hW rfl dX0_goOnFrom_156
        · replace hf := (if_neg c10).symm.trans hf
          by_cases c11 : x3 = 12
          · replace hf := (if_pos c11).symm.trans hf
            refine lv_tableIn (off := 72) (tgt := 130) hx hb dX0_goOnFrom_58 (by rw [c11]; decide) (by rw [c11]; decide) (by rw [c11]; decide) (by decide) ?_
            refine lv_aload_n hx hb dX0_goOnFrom_130 rfl (lv_at hl 0 rfl) ?_
            refine lv_iload_n hx hb dX0_goOnFrom_131 rfl (lv_at hl 1 rfl) ?_
            refine lv_iload_n hx hb dX0_goOnFrom_132 rfl (lv_at hl 2 rfl) ?_
            refine lv_iconst (v := 1) hx hb dX0_goOnFrom_133 (by decide) ?_
            refine lv_iadd hx hb dX0_goOnFrom_134 ?_
            obtain ⟨o12, h12, hf⟩ := g_bnd hf
            refine gs_callVv (ws' := w_X0_goOnFrom cI cZ cJ a_t a_tp a_tp_parameterCounts a_tp_lengths a_tp_fields a_tp_entries a_tk a_tk_comeTo a_tk_any a_tk_numbers a_tr a_tr_any a_tr_numbers a_t_isWaiting a_t_waiting o12.1 tp_functionCount tp_entryCount tp_parameterCounts tp_lengths tp_fields tp_entries o12.2.1 o12.2.2.1 o12.2.2.2.1 o2.1 o2.2 o12.2.2.2.2.1 o12.2.2.2.2.2) hC hW (k_X0_arriveAt l tA dC dI cI cZ cJ a_t a_tp a_tp_lengths a_tk a_tk_comeTo a_tk_any a_tk_numbers a_tr a_tr_any a_tr_numbers a_t_isWaiting a_t_waiting a_tp_parameterCounts a_tp_fields a_tp_entries N x1 (x2 + 1) t_waitingCount tp_functionCount tp_entryCount tp_lengths tk_comeTo tk_any tk_numbers o2.1 o2.2 t_isWaiting t_waiting _ h12) yk_X0_arriveAt lk_X0_47 iv_X0_arriveAt ⟨rfl, rfl⟩ ⟨Nat.le_of_ble_eq_true rfl, Nat.le_of_ble_eq_true rfl⟩ hl.1 0 rfl rfl [0, 1, 3, 6, 7, 8, 9, 10, 11, 12, 13, 14] [2, 4, 5] [3, 4, 0, 5, 1, 2, 6, 7, 8, 9, 10, 11, 12, 13, 14] rfl rfl rfl rfl (by decide) rfl rfl rfl rfl (Nat.le_of_ble_eq_true rfl) dX0_goOnFrom_135 ⟨Nat.zero_le _, Nat.zero_le _⟩ (fun H locs hW => ?_)
            refine lv_goto (tgt := 156) hx hb dX0_goOnFrom_138 (by decide) ?_
            obtain rfl := Option.some.inj hf
            exact gs_rv hC hW rfl dX0_goOnFrom_156
          · replace hf := (if_neg c11).symm.trans hf
            refine gs_tblD (n := 7) (tgt := 141) hx hb dX0_goOnFrom_58 (by decide) (by decide) (fun j hj h9 => ?_) ?_
            · rcases (show j = 0 ∨ j = 1 ∨ j = 2 ∨ j = 3 ∨ j = 4 ∨ j = 5 ∨ j = 6 by omega) with rfl | rfl | rfl | rfl | rfl | rfl | rfl
              · exact absurd (g_ti (k := 6) h9 (by decide)) c3
              · exact absurd (g_ti (k := 7) h9 (by decide)) c5
              · exact absurd (g_ti (k := 8) h9 (by decide)) c7
              · exact absurd (g_ti (k := 9) h9 (by decide)) c10
              · decide
              · decide
              · exact absurd (g_ti (k := 12) h9 (by decide)) c11
            · refine lv_aload_n hx hb dX0_goOnFrom_141 rfl (lv_at hl 0 rfl) ?_
              refine lv_iload_n hx hb dX0_goOnFrom_142 rfl (lv_at hl 1 rfl) ?_
              refine lv_iload_n hx hb dX0_goOnFrom_143 rfl (lv_at hl 2 rfl) ?_
              refine lv_iload_n hx hb dX0_goOnFrom_144 rfl (lv_at hl 3 rfl) ?_
              obtain ⟨o13, h13, hf⟩ := g_bnd hf
              refine gs_callVv (ws' := w_X0_goOnFrom cI cZ cJ a_t a_tp a_tp_parameterCounts a_tp_lengths a_tp_fields a_tp_entries a_tk a_tk_comeTo a_tk_any a_tk_numbers a_tr a_tr_any a_tr_numbers a_t_isWaiting a_t_waiting t_waitingCount tp_functionCount tp_entryCount tp_parameterCounts tp_lengths tp_fields tp_entries tk_comeTo tk_any tk_numbers o13.1 o13.2 t_isWaiting t_waiting) hC hW (k_X0_putResult l tA dC dI cI cZ cJ a_t a_tp a_tp_lengths a_tp_fields a_tk a_tk_any a_tk_numbers a_tr a_tr_any a_tr_numbers a_t_isWaiting a_t_waiting a_tp_parameterCounts a_tp_entries a_tk_comeTo x1 x2 x3 t_waitingCount tp_functionCount tp_entryCount tp_lengths tp_fields tk_any tk_numbers o2.1 o2.2 _ h13) yk_X0_putResult lk_X0_81 iv_X0_putResult ⟨rfl, rfl⟩ ⟨Nat.le_of_ble_eq_true rfl, Nat.le_of_ble_eq_true rfl⟩ hl.1 0 rfl rfl [0, 1, 3, 4, 6, 8, 9, 10, 11, 12] [2, 5, 7, 13, 14] [5, 6, 0, 7, 8, 1, 9, 2, 10, 11, 12, 13, 14, 3, 4] rfl rfl rfl rfl (by decide) rfl rfl rfl rfl (Nat.le_of_ble_eq_true rfl) dX0_goOnFrom_145 ⟨Nat.zero_le _, Nat.zero_le _⟩ (fun H locs hW => ?_)
              refine lv_aload_n hx hb dX0_goOnFrom_148 rfl (lv_at hl 0 rfl) ?_
              refine lv_iload_n hx hb dX0_goOnFrom_149 rfl (lv_at hl 1 rfl) ?_
              refine lv_iload_n hx hb dX0_goOnFrom_150 rfl (lv_at hl 2 rfl) ?_
              refine lv_iconst (v := 1) hx hb dX0_goOnFrom_151 (by decide) ?_
              refine lv_iadd hx hb dX0_goOnFrom_152 ?_
              obtain ⟨o14, h14, hf⟩ := g_bnd hf
              refine gs_callVv (ws' := w_X0_goOnFrom cI cZ cJ a_t a_tp a_tp_parameterCounts a_tp_lengths a_tp_fields a_tp_entries a_tk a_tk_comeTo a_tk_any a_tk_numbers a_tr a_tr_any a_tr_numbers a_t_isWaiting a_t_waiting o14.1 tp_functionCount tp_entryCount tp_parameterCounts tp_lengths tp_fields tp_entries o14.2.1 o14.2.2.1 o14.2.2.2.1 o13.1 o13.2 o14.2.2.2.2.1 o14.2.2.2.2.2) hC hW (k_X0_arriveAt l tA dC dI cI cZ cJ a_t a_tp a_tp_lengths a_tk a_tk_comeTo a_tk_any a_tk_numbers a_tr a_tr_any a_tr_numbers a_t_isWaiting a_t_waiting a_tp_parameterCounts a_tp_fields a_tp_entries N x1 (x2 + 1) t_waitingCount tp_functionCount tp_entryCount tp_lengths tk_comeTo tk_any tk_numbers o13.1 o13.2 t_isWaiting t_waiting _ h14) yk_X0_arriveAt lk_X0_47 iv_X0_arriveAt ⟨rfl, rfl⟩ ⟨Nat.le_of_ble_eq_true rfl, Nat.le_of_ble_eq_true rfl⟩ hl.1 0 rfl rfl [0, 1, 3, 6, 7, 8, 9, 10, 11, 12, 13, 14] [2, 4, 5] [3, 4, 0, 5, 1, 2, 6, 7, 8, 9, 10, 11, 12, 13, 14] rfl rfl rfl rfl (by decide) rfl rfl rfl rfl (Nat.le_of_ble_eq_true rfl) dX0_goOnFrom_153 ⟨Nat.zero_le _, Nat.zero_le _⟩ (fun H locs hW => ?_)
              obtain rfl := Option.some.inj hf
              exact gs_rv hC hW rfl dX0_goOnFrom_156
def f_X0_goOnFrom (N : Nat) (x1 : Int32) (x2 : Int32) (t_waitingCount : Int32) (tp_entryCount : Int32) (tp_parameterCounts : Nat → Int32) (tp_lengths : Nat → Int32) (tp_fields : Nat → Int32) (tp_entries : Nat → Int32) (tk_comeTo : Nat → Int32) (tk_any : Nat → Int32) (tk_numbers : Nat → Int32) (tr_any : Nat → Int32) (tr_numbers : Nat → Int32) (t_isWaiting : Nat → Int32) (t_waiting : Nat → Int32) : Option (Int32 × (Nat → Int32) × (Nat → Int32) × (Nat → Int32) × (Nat → Int32) × (Nat → Int32) × (Nat → Int32) × (Nat → Int32)) := (g_rd 12 tp_lengths x1).bind (fun v15 => if x2 < v15 then (f_X4_fieldOf x1 x2 0 tp_fields).bind (fun o17 => if o17 = 10 then (f_X0_goIntoCalls N x1 x2 o17 t_waitingCount tp_entryCount tp_parameterCounts tp_lengths tp_fields tp_entries tk_comeTo tk_any tk_numbers tr_any tr_numbers t_isWaiting t_waiting).bind (fun o19 => f_X0_goOnFrom_44 N x1 x2 tp_entryCount tp_parameterCounts tp_lengths tp_fields tp_entries o17 o19.1 o19.2.1 o19.2.2.1 o19.2.2.2.1 o19.2.2.2.2.1 o19.2.2.2.2.2.1 o19.2.2.2.2.2.2.1 o19.2.2.2.2.2.2.2) else if o17 = 11 then (f_X0_goIntoCalls N x1 x2 o17 t_waitingCount tp_entryCount tp_parameterCounts tp_lengths tp_fields tp_entries tk_comeTo tk_any tk_numbers tr_any tr_numbers t_isWaiting t_waiting).bind (fun o21 => f_X0_goOnFrom_44 N x1 x2 tp_entryCount tp_parameterCounts tp_lengths tp_fields tp_entries o17 o21.1 o21.2.1 o21.2.2.1 o21.2.2.2.1 o21.2.2.2.2.1 o21.2.2.2.2.2.1 o21.2.2.2.2.2.2.1 o21.2.2.2.2.2.2.2) else f_X0_goOnFrom_44 N x1 x2 tp_entryCount tp_parameterCounts tp_lengths tp_fields tp_entries o17 t_waitingCount tk_comeTo tk_any tk_numbers tr_any tr_numbers t_isWaiting t_waiting) else some (t_waitingCount, tk_comeTo, tk_any, tk_numbers, tr_any, tr_numbers, t_isWaiting, t_waiting))
set_option maxHeartbeats 4000000 in
set_option maxRecDepth 100000 in
theorem k_X0_goOnFrom (l : Launch) (tA : Nat) (dC : Nat → ClassId) (dI : Nat → Nat → Nat) (cI cZ cJ : ClassId) (a_t : Nat) (a_tp : Nat) (a_tp_parameterCounts : Nat) (a_tp_lengths : Nat) (a_tp_fields : Nat) (a_tp_entries : Nat) (a_tk : Nat) (a_tk_comeTo : Nat) (a_tk_any : Nat) (a_tk_numbers : Nat) (a_tr : Nat) (a_tr_any : Nat) (a_tr_numbers : Nat) (a_t_isWaiting : Nat) (a_t_waiting : Nat) (N : Nat) (x1 : Int32) (x2 : Int32) (t_waitingCount : Int32) (tp_functionCount : Int32) (tp_entryCount : Int32) (tp_parameterCounts : Nat → Int32) (tp_lengths : Nat → Int32) (tp_fields : Nat → Int32) (tp_entries : Nat → Int32) (tk_comeTo : Nat → Int32) (tk_any : Nat → Int32) (tk_numbers : Nat → Int32) (tr_any : Nat → Int32) (tr_numbers : Nat → Int32) (t_isWaiting : Nat → Int32) (t_waiting : Nat → Int32) (out : Int32 × (Nat → Int32) × (Nat → Int32) × (Nat → Int32) × (Nat → Int32) × (Nat → Int32) × (Nat → Int32) × (Nat → Int32)) (hf : f_X0_goOnFrom N x1 x2 t_waitingCount tp_entryCount tp_parameterCounts tp_lengths tp_fields tp_entries tk_comeTo tk_any tk_numbers tr_any tr_numbers t_isWaiting t_waiting = some out) : g_Mv l yX0_goOnFrom cX0_goOnFrom 4 (none : Option Jvm.ClassFile.FieldType) r_X0_goOnFrom tA dC dI cI cZ cJ [.ref a_t, .int x1, .int x2] (w_X0_goOnFrom cI cZ cJ a_t a_tp a_tp_parameterCounts a_tp_lengths a_tp_fields a_tp_entries a_tk a_tk_comeTo a_tk_any a_tk_numbers a_tr a_tr_any a_tr_numbers a_t_isWaiting a_t_waiting t_waitingCount tp_functionCount tp_entryCount tp_parameterCounts tp_lengths tp_fields tp_entries tk_comeTo tk_any tk_numbers tr_any tr_numbers t_isWaiting t_waiting) (w_X0_goOnFrom cI cZ cJ a_t a_tp a_tp_parameterCounts a_tp_lengths a_tp_fields a_tp_entries a_tk a_tk_comeTo a_tk_any a_tk_numbers a_tr a_tr_any a_tr_numbers a_t_isWaiting a_t_waiting out.1 tp_functionCount tp_entryCount tp_parameterCounts tp_lengths tp_fields tp_entries out.2.1 out.2.2.1 out.2.2.2.1 out.2.2.2.2.1 out.2.2.2.2.2.1 out.2.2.2.2.2.2.1 out.2.2.2.2.2.2.2) := by
  unfold f_X0_goOnFrom at hf
  refine ge_v (by decide) (Nat.le_of_ble_eq_true rfl) (fun p e s m below meth c A H locs ls hC hW hl => ?_)
  have hC : g_C p s m meth c _ cX0_goOnFrom 4 (none : Option Jvm.ClassFile.FieldType) RX0 := hC
  have hx := hC.1
  have hb := hC.2.1
  have hown := hC.2.2.2.2.1
  have hts := hC.2.2.2.2.2.1
  have hl : lv_has ls 4 [(0, .ref a_t), (1, .int x1), (2, .int x2)] := hl
  refine lv_iload_n hx hb dX0_goOnFrom_0 rfl (lv_at hl 2 rfl) ?_
  refine lv_aload_n hx hb dX0_goOnFrom_1 rfl (lv_at hl 0 rfl) ?_
  refine gs_get hC hW in_X0 0 0 rfl rfl (by decide) fl_X0_9 rfl dX0_goOnFrom_2 ?_
  refine gs_get hC hW in_X4 1 3 rfl rfl (by decide) fl_X0_63 rfl dX0_goOnFrom_5 ?_
  refine lv_iload_n hx hb dX0_goOnFrom_8 rfl (lv_at hl 1 rfl) ?_
  obtain ⟨v15, h15, hf⟩ := g_bnd hf
  refine gs_iald hC hW 3 h15 rfl dX0_goOnFrom_9 ?_
  refine lv_icmp_lt (tgt := 14) hx hb dX0_goOnFrom_10 (by decide) (fun c16 => ?_) (fun c16 => ?_)
  · replace hf := (if_pos c16).symm.trans hf
    refine lv_aload_n hx hb dX0_goOnFrom_14 rfl (lv_at hl 0 rfl) ?_
    refine gs_get hC hW in_X0 0 0 rfl rfl (by decide) fl_X0_9 rfl dX0_goOnFrom_15 ?_
    refine lv_iload_n hx hb dX0_goOnFrom_18 rfl (lv_at hl 1 rfl) ?_
    refine lv_iload_n hx hb dX0_goOnFrom_19 rfl (lv_at hl 2 rfl) ?_
    refine lv_iconst (v := 0) hx hb dX0_goOnFrom_20 (by decide) ?_
    obtain ⟨o17, h17, hf⟩ := g_bnd hf
    refine gs_callVi (ws' := w_X0_goOnFrom cI cZ cJ a_t a_tp a_tp_parameterCounts a_tp_lengths a_tp_fields a_tp_entries a_tk a_tk_comeTo a_tk_any a_tk_numbers a_tr a_tr_any a_tr_numbers a_t_isWaiting a_t_waiting t_waitingCount tp_functionCount tp_entryCount tp_parameterCounts tp_lengths tp_fields tp_entries tk_comeTo tk_any tk_numbers tr_any tr_numbers t_isWaiting t_waiting) hC hW (k_X4_fieldOf l tA dC dI cI cZ cJ a_tp a_tp_fields a_tp_parameterCounts a_tp_lengths a_tp_entries x1 x2 0 tp_functionCount tp_entryCount tp_fields _ h17) yk_X4_fieldOf lk_X0_66 iv_X4_fieldOf ⟨rfl, rfl⟩ ⟨Nat.le_of_ble_eq_true rfl, Nat.le_of_ble_eq_true rfl⟩ hl.1 1 rfl rfl [1, 4] [0, 2, 3, 5, 6, 7, 8, 9, 10, 11, 12, 13, 14] [0, 13, 1, 2, 14, 3, 4, 5, 6, 7, 8, 9, 10, 11, 12] rfl rfl rfl rfl (by decide) rfl rfl rfl rfl (Nat.le_of_ble_eq_true rfl) dX0_goOnFrom_21 ⟨Nat.zero_le _, Nat.zero_le _⟩ (fun H locs hW => ?_)
    refine lv_istore_n (lv' := [(3, .int o17), (0, .ref a_t), (1, .int x1), (2, .int x2)]) hx hb dX0_goOnFrom_24 rfl hl (by decide) rfl (fun ls hl => ?_)
    refine lv_iload_n hx hb dX0_goOnFrom_25 rfl (lv_at hl 0 rfl) ?_
    refine lv_bipush (v := 10) hx hb dX0_goOnFrom_26 (by decide) ?_
    refine lv_icmp_eq (tgt := 37) hx hb dX0_goOnFrom_28 (by decide) (fun c18 => ?_) (fun c18 => ?_)
    · replace hf := (if_pos c18).symm.trans hf
      refine lv_aload_n hx hb dX0_goOnFrom_37 rfl (lv_at hl 1 rfl) ?_
      refine lv_iload_n hx hb dX0_goOnFrom_38 rfl (lv_at hl 2 rfl) ?_
      refine lv_iload_n hx hb dX0_goOnFrom_39 rfl (lv_at hl 3 rfl) ?_
      refine lv_iload_n hx hb dX0_goOnFrom_40 rfl (lv_at hl 0 rfl) ?_
      obtain ⟨o19, h19, hf⟩ := g_bnd hf
      refine gs_callVv (ws' := w_X0_goOnFrom cI cZ cJ a_t a_tp a_tp_parameterCounts a_tp_lengths a_tp_fields a_tp_entries a_tk a_tk_comeTo a_tk_any a_tk_numbers a_tr a_tr_any a_tr_numbers a_t_isWaiting a_t_waiting o19.1 tp_functionCount tp_entryCount tp_parameterCounts tp_lengths tp_fields tp_entries o19.2.1 o19.2.2.1 o19.2.2.2.1 o19.2.2.2.2.1 o19.2.2.2.2.2.1 o19.2.2.2.2.2.2.1 o19.2.2.2.2.2.2.2) hC hW (k_X0_goIntoCalls l tA dC dI cI cZ cJ a_t a_tp a_tp_parameterCounts a_tp_lengths a_tp_fields a_tp_entries a_tk a_tk_comeTo a_tk_any a_tk_numbers a_tr a_tr_any a_tr_numbers a_t_isWaiting a_t_waiting N x1 x2 o17 t_waitingCount tp_functionCount tp_entryCount tp_parameterCounts tp_lengths tp_fields tp_entries tk_comeTo tk_any tk_numbers tr_any tr_numbers t_isWaiting t_waiting _ h19) yk_X0_goIntoCalls lk_X0_70 iv_X0_goIntoCalls ⟨rfl, rfl⟩ ⟨Nat.le_of_ble_eq_true rfl, Nat.le_of_ble_eq_true rfl⟩ hl.1 0 rfl rfl [0, 1, 2, 3, 4, 5, 6, 7, 8, 9, 10, 11, 12, 13, 14] [] [0, 1, 2, 3, 4, 5, 6, 7, 8, 9, 10, 11, 12, 13, 14] rfl rfl rfl rfl (by decide) rfl rfl rfl rfl (Nat.le_of_ble_eq_true rfl) dX0_goOnFrom_41 ⟨Nat.zero_le _, Nat.zero_le _⟩ (fun H locs hW => ?_)
      exact b_X0_goOnFrom_44 hC hf hW (lv_sub hl [1, 2, 3, 0] rfl)
    · replace hf := (if_neg c18).symm.trans hf
      refine lv_iload_n hx hb dX0_goOnFrom_31 rfl (lv_at hl 0 rfl) ?_
      refine lv_bipush (v := 11) hx hb dX0_goOnFrom_32 (by decide) ?_
      refine lv_icmp_ne (tgt := 44) hx hb dX0_goOnFrom_34 (by decide) (fun c20 => ?_) (fun c20 => ?_)
      · replace hf := (if_neg c20).symm.trans hf
        exact b_X0_goOnFrom_44 hC hf hW (lv_sub hl [1, 2, 3, 0] rfl)
      · replace hf := (if_pos c20).symm.trans hf
        refine lv_aload_n hx hb dX0_goOnFrom_37 rfl (lv_at hl 1 rfl) ?_
        refine lv_iload_n hx hb dX0_goOnFrom_38 rfl (lv_at hl 2 rfl) ?_
        refine lv_iload_n hx hb dX0_goOnFrom_39 rfl (lv_at hl 3 rfl) ?_
        refine lv_iload_n hx hb dX0_goOnFrom_40 rfl (lv_at hl 0 rfl) ?_
        obtain ⟨o21, h21, hf⟩ := g_bnd hf
        refine gs_callVv (ws' := w_X0_goOnFrom cI cZ cJ a_t a_tp a_tp_parameterCounts a_tp_lengths a_tp_fields a_tp_entries a_tk a_tk_comeTo a_tk_any a_tk_numbers a_tr a_tr_any a_tr_numbers a_t_isWaiting a_t_waiting o21.1 tp_functionCount tp_entryCount tp_parameterCounts tp_lengths tp_fields tp_entries o21.2.1 o21.2.2.1 o21.2.2.2.1 o21.2.2.2.2.1 o21.2.2.2.2.2.1 o21.2.2.2.2.2.2.1 o21.2.2.2.2.2.2.2) hC hW (k_X0_goIntoCalls l tA dC dI cI cZ cJ a_t a_tp a_tp_parameterCounts a_tp_lengths a_tp_fields a_tp_entries a_tk a_tk_comeTo a_tk_any a_tk_numbers a_tr a_tr_any a_tr_numbers a_t_isWaiting a_t_waiting N x1 x2 o17 t_waitingCount tp_functionCount tp_entryCount tp_parameterCounts tp_lengths tp_fields tp_entries tk_comeTo tk_any tk_numbers tr_any tr_numbers t_isWaiting t_waiting _ h21) yk_X0_goIntoCalls lk_X0_70 iv_X0_goIntoCalls ⟨rfl, rfl⟩ ⟨Nat.le_of_ble_eq_true rfl, Nat.le_of_ble_eq_true rfl⟩ hl.1 0 rfl rfl [0, 1, 2, 3, 4, 5, 6, 7, 8, 9, 10, 11, 12, 13, 14] [] [0, 1, 2, 3, 4, 5, 6, 7, 8, 9, 10, 11, 12, 13, 14] rfl rfl rfl rfl (by decide) rfl rfl rfl rfl (Nat.le_of_ble_eq_true rfl) dX0_goOnFrom_41 ⟨Nat.zero_le _, Nat.zero_le _⟩ (fun H locs hW => ?_)
        exact b_X0_goOnFrom_44 hC hf hW (lv_sub hl [1, 2, 3, 0] rfl)
  · replace hf := (if_neg c16).symm.trans hf
    obtain rfl := Option.some.inj hf
    exact gs_rv hC hW rfl dX0_goOnFrom_13

abbrev w_X0_find (cI cZ cJ : ClassId) (a_t : Nat) (a_tp : Nat) (a_tp_parameterCounts : Nat) (a_tp_lengths : Nat) (a_tp_fields : Nat) (a_tp_entries : Nat) (a_tk : Nat) (a_tk_comeTo : Nat) (a_tk_any : Nat) (a_tk_numbers : Nat) (a_tr : Nat) (a_tr_any : Nat) (a_tr_numbers : Nat) (a_t_isWaiting : Nat) (a_t_waiting : Nat) (t_waitingCount : Int32) (tp_functionCount : Int32) (tp_entryCount : Int32) (tp_parameterCounts : Nat → Int32) (tp_lengths : Nat → Int32) (tp_fields : Nat → Int32) (tp_entries : Nat → Int32) (tk_comeTo : Nat → Int32) (tk_any : Nat → Int32) (tk_numbers : Nat → Int32) (tr_any : Nat → Int32) (tr_numbers : Nat → Int32) (t_isWaiting : Nat → Int32) (t_waiting : Nat → Int32) : va_W := [(a_t, .inr (0, [.ref a_tp, .ref a_tk, .ref a_tr, .ref a_t_isWaiting, .ref a_t_waiting, .int t_waitingCount])), (a_tp, .inr (4, [.int tp_functionCount, .int tp_entryCount, .ref a_tp_parameterCounts, .ref a_tp_lengths, .ref a_tp_fields, .ref a_tp_entries])), (a_tp_parameterCounts, .inl (cI, 12, .inl tp_parameterCounts)), (a_tp_lengths, .inl (cI, 12, .inl tp_lengths)), (a_tp_fields, .inl (cI, 1152, .inl tp_fields)), (a_tp_entries, .inl (cI, 4, .inl tp_entries)), (a_tk, .inr (1, [.ref a_tk_comeTo, .ref a_tk_any, .ref a_tk_numbers])), (a_tk_comeTo, .inl (cZ, 204, .inl tk_comeTo)), (a_tk_any, .inl (cZ, 1224, .inl tk_any)), (a_tk_numbers, .inl (cI, 1224, .inl tk_numbers)), (a_tr, .inr (5, [.ref a_tr_any, .ref a_tr_numbers])), (a_tr_any, .inl (cZ, 6, .inl tr_any)), (a_tr_numbers, .inl (cI, 6, .inl tr_numbers)), (a_t_isWaiting, .inl (cZ, 204, .inl t_isWaiting)), (a_t_waiting, .inl (cI, 204, .inl t_waiting))]
abbrev r_X0_find : Room := { frames := 5, cells := 0, slots := 0, locals := 123 }
def f_X0_find_38 (N : Nat) (tp_entryCount : Int32) (tp_parameterCounts : Nat → Int32) (tp_lengths : Nat → Int32) (tp_fields : Nat → Int32) (tp_entries : Nat → Int32) : Nat → Int32 → Int32 → (Nat → Int32) → (Nat → Int32) → (Nat → Int32) → (Nat → Int32) → (Nat → Int32) → (Nat → Int32) → (Nat → Int32) → Option (Int32 × (Nat → Int32) × (Nat → Int32) × (Nat → Int32) × (Nat → Int32) × (Nat → Int32) × (Nat → Int32) × (Nat → Int32))
  | 0, _, _, _, _, _, _, _, _, _ => none
  | n + 1, x1, t_waitingCount, tk_comeTo, tk_any, tk_numbers, tr_any, tr_numbers, t_isWaiting, t_waiting => if 1428 ≤ x1 then some (t_waitingCount, tk_comeTo, tk_any, tk_numbers, tr_any, tr_numbers, t_isWaiting, t_waiting) else if t_waitingCount ≤ 0 then some (t_waitingCount, tk_comeTo, tk_any, tk_numbers, tr_any, tr_numbers, t_isWaiting, t_waiting) else (g_rd 204 t_waiting (t_waitingCount - 1)).bind (fun v3 => (g_wz 204 t_isWaiting v3 0).bind (fun s4 => (g_dv v3 17).bind (fun v5 => (g_rm v3 17).bind (fun v6 => (f_X0_goOnFrom N v5 v6 (t_waitingCount - 1) tp_entryCount tp_parameterCounts tp_lengths tp_fields tp_entries tk_comeTo tk_any tk_numbers tr_any tr_numbers s4 t_waiting).bind (fun o7 => f_X0_find_38 N tp_entryCount tp_parameterCounts tp_lengths tp_fields tp_entries n (x1 + 1) o7.1 o7.2.1 o7.2.2.1 o7.2.2.2.1 o7.2.2.2.2.1 o7.2.2.2.2.2.1 o7.2.2.2.2.2.2.1 o7.2.2.2.2.2.2.2)))))
set_option maxHeartbeats 4000000 in
set_option maxRecDepth 100000 in
theorem b_X0_find_38 {p : Program} {l : Launch} {e : Env} {s : State} {m : MethodId} {args : Array Value} {below : List Frame} {meth : Method} {c : Code} {tA : Nat} {dC : Nat → ClassId} {dI : Nat → Nat → Nat} {cI cZ cJ : ClassId} {A : Nat → Prop} {a_t : Nat} {a_tp : Nat} {a_tp_parameterCounts : Nat} {a_tp_lengths : Nat} {a_tp_fields : Nat} {a_tp_entries : Nat} {a_tk : Nat} {a_tk_comeTo : Nat} {a_tk_any : Nat} {a_tk_numbers : Nat} {a_tr : Nat} {a_tr_any : Nat} {a_tr_numbers : Nat} {a_t_isWaiting : Nat} {a_t_waiting : Nat} {tp_entryCount : Int32} {tp_parameterCounts : Nat → Int32} {tp_lengths : Nat → Int32} {tp_fields : Nat → Int32} {tp_entries : Nat → Int32} {tp_functionCount : Int32} {N : Nat} (hC : g_C p s m meth c args cX0_find 3 (none : Option Jvm.ClassFile.FieldType) RX0) :
    ∀ (n : Nat) (x1 : Int32) (t_waitingCount : Int32) (tk_comeTo : Nat → Int32) (tk_any : Nat → Int32) (tk_numbers : Nat → Int32) (tr_any : Nat → Int32) (tr_numbers : Nat → Int32) (t_isWaiting : Nat → Int32) (t_waiting : Nat → Int32) (out : Int32 × (Nat → Int32) × (Nat → Int32) × (Nat → Int32) × (Nat → Int32) × (Nat → Int32) × (Nat → Int32) × (Nat → Int32)), f_X0_find_38 N tp_entryCount tp_parameterCounts tp_lengths tp_fields tp_entries n x1 t_waitingCount tk_comeTo tk_any tk_numbers tr_any tr_numbers t_isWaiting t_waiting = some out → ∀ (H : Heap) (locs : List Loc) (ls : Array Slot), g_W tA dC dI cI cZ cJ A s H locs (w_X0_find cI cZ cJ a_t a_tp a_tp_parameterCounts a_tp_lengths a_tp_fields a_tp_entries a_tk a_tk_comeTo a_tk_any a_tk_numbers a_tr a_tr_any a_tr_numbers a_t_isWaiting a_t_waiting t_waitingCount tp_functionCount tp_entryCount tp_parameterCounts tp_lengths tp_fields tp_entries tk_comeTo tk_any tk_numbers tr_any tr_numbers t_isWaiting t_waiting) → lv_has ls 3 [(0, .ref a_t), (1, .int x1)] → W p l e r_X0_find s m args below meth c H locs 0 0 (MQ below (g_Qv dC dI cI cZ cJ A (w_X0_find cI cZ cJ a_t a_tp a_tp_parameterCounts a_tp_lengths a_tp_fields a_tp_entries a_tk a_tk_comeTo a_tk_any a_tk_numbers a_tr a_tr_any a_tr_numbers a_t_isWaiting a_t_waiting out.1 tp_functionCount tp_entryCount tp_parameterCounts tp_lengths tp_fields tp_entries out.2.1 out.2.2.1 out.2.2.2.1 out.2.2.2.2.1 out.2.2.2.2.2.1 out.2.2.2.2.2.2.1 out.2.2.2.2.2.2.2)) args s 0 0 A) (F0 m 38 ls []) := by
  have hx := hC.1
  have hb := hC.2.1
  have hown := hC.2.2.2.2.1
  have hts := hC.2.2.2.2.2.1
  intro n
  induction n with
  | zero =>
    intro x1 t_waitingCount tk_comeTo tk_any tk_numbers tr_any tr_numbers t_isWaiting t_waiting out hf
    exact g_no hf
  | succ n ih =>
    intro x1 t_waitingCount tk_comeTo tk_any tk_numbers tr_any tr_numbers t_isWaiting t_waiting out hf H locs ls hW hl
    refine lv_iload_n hx hb dX0_find_38 rfl (lv_at hl 1 rfl) ?_
    refine lv_sipush (v := 1428) hx hb dX0_find_39 (by decide) ?_
    refine lv_icmp_ge (tgt := 97) hx hb dX0_find_42 (by decide) (fun c1 => ?_) (fun c1 => ?_)
    · replace hf := (if_pos c1).symm.trans hf
      obtain rfl := Option.some.inj hf
      exact gs_rv hC hW rfl dX0_find_97
    · replace hf := (if_neg c1).symm.trans hf
      refine lv_aload_n hx hb dX0_find_45 rfl (lv_at hl 0 rfl) ?_
      refine gs_get hC hW in_X0 0 5 rfl rfl (by decide) fl_X0_34 rfl dX0_find_46 ?_
      refine lv_if_le (tgt := 97) hx hb dX0_find_49 (by decide) (fun c2 => ?_) (fun c2 => ?_)
      · replace hf := (if_pos c2).symm.trans hf
        obtain rfl := Option.some.inj hf
        exact gs_rv hC hW rfl dX0_find_97
      · replace hf := (if_neg c2).symm.trans hf
        refine lv_aload_n hx hb dX0_find_52 rfl (lv_at hl 0 rfl) ?_
        refine lv_dup hx hb dX0_find_53 rfl ?_
        refine gs_get hC hW in_X0 0 5 rfl rfl (by decide) fl_X0_34 rfl dX0_find_54 ?_
        refine lv_iconst (v := 1) hx hb dX0_find_57 (by decide) ?_
        refine lv_isub hx hb dX0_find_58 ?_
        refine gs_put (ws' := w_X0_find cI cZ cJ a_t a_tp a_tp_parameterCounts a_tp_lengths a_tp_fields a_tp_entries a_tk a_tk_comeTo a_tk_any a_tk_numbers a_tr a_tr_any a_tr_numbers a_t_isWaiting a_t_waiting (t_waitingCount - 1) tp_functionCount tp_entryCount tp_parameterCounts tp_lengths tp_fields tp_entries tk_comeTo tk_any tk_numbers tr_any tr_numbers t_isWaiting t_waiting) hC hW in_X0 tyX0_ok nmX0 0 5 rfl rfl (by decide) fl_X0_34 rfl rfl rfl (Nat.le_of_ble_eq_true rfl) rfl dX0_find_59 (fun H locs hW => ?_)
        refine lv_aload_n hx hb dX0_find_62 rfl (lv_at hl 0 rfl) ?_
        refine gs_get hC hW in_X0 0 4 rfl rfl (by decide) fl_X0_30 rfl dX0_find_63 ?_
        refine lv_aload_n hx hb dX0_find_66 rfl (lv_at hl 0 rfl) ?_
        refine gs_get hC hW in_X0 0 5 rfl rfl (by decide) fl_X0_34 rfl dX0_find_67 ?_
        obtain ⟨v3, h3, hf⟩ := g_bnd hf
        refine gs_iald hC hW 14 h3 rfl dX0_find_70 ?_
        refine lv_istore_n (lv' := [(2, .int v3), (0, .ref a_t), (1, .int x1)]) hx hb dX0_find_71 rfl hl (by decide) rfl (fun ls hl => ?_)
        refine lv_aload_n hx hb dX0_find_72 rfl (lv_at hl 1 rfl) ?_
        refine gs_get hC hW in_X0 0 3 rfl rfl (by decide) fl_X0_26 rfl dX0_find_73 ?_
        refine lv_iload_n hx hb dX0_find_76 rfl (lv_at hl 0 rfl) ?_
        refine lv_iconst (v := 0) hx hb dX0_find_77 (by decide) ?_
        obtain ⟨s4, h4, hf⟩ := g_bnd hf
        refine gs_zast (ws' := w_X0_find cI cZ cJ a_t a_tp a_tp_parameterCounts a_tp_lengths a_tp_fields a_tp_entries a_tk a_tk_comeTo a_tk_any a_tk_numbers a_tr a_tr_any a_tr_numbers a_t_isWaiting a_t_waiting (t_waitingCount - 1) tp_functionCount tp_entryCount tp_parameterCounts tp_lengths tp_fields tp_entries tk_comeTo tk_any tk_numbers tr_any tr_numbers s4 t_waiting) hC hW 13 h4 rfl rfl dX0_find_78 (fun H locs hW => ?_)
        refine lv_aload_n hx hb dX0_find_79 rfl (lv_at hl 1 rfl) ?_
        refine lv_iload_n hx hb dX0_find_80 rfl (lv_at hl 0 rfl) ?_
        refine lv_bipush (v := 17) hx hb dX0_find_81 (by decide) ?_
        obtain ⟨v5, h5, hf⟩ := g_bnd hf
        refine gs_idiv hC h5 dX0_find_83 ?_
        refine lv_iload_n hx hb dX0_find_84 rfl (lv_at hl 0 rfl) ?_
        refine lv_bipush (v := 17) hx hb dX0_find_85 (by decide) ?_
        obtain ⟨v6, h6, hf⟩ := g_bnd hf
        refine gs_irem hC h6 dX0_find_87 ?_
        obtain ⟨o7, h7, hf⟩ := g_bnd hf
        refine gs_callVv (ws' := w_X0_find cI cZ cJ a_t a_tp a_tp_parameterCounts a_tp_lengths a_tp_fields a_tp_entries a_tk a_tk_comeTo a_tk_any a_tk_numbers a_tr a_tr_any a_tr_numbers a_t_isWaiting a_t_waiting o7.1 tp_functionCount tp_entryCount tp_parameterCounts tp_lengths tp_fields tp_entries o7.2.1 o7.2.2.1 o7.2.2.2.1 o7.2.2.2.2.1 o7.2.2.2.2.2.1 o7.2.2.2.2.2.2.1 o7.2.2.2.2.2.2.2) hC hW (k_X0_goOnFrom l tA dC dI cI cZ cJ a_t a_tp a_tp_parameterCounts a_tp_lengths a_tp_fields a_tp_entries a_tk a_tk_comeTo a_tk_any a_tk_numbers a_tr a_tr_any a_tr_numbers a_t_isWaiting a_t_waiting N v5 v6 (t_waitingCount - 1) tp_functionCount tp_entryCount tp_parameterCounts tp_lengths tp_fields tp_entries tk_comeTo tk_any tk_numbers tr_any tr_numbers s4 t_waiting _ h7) yk_X0_goOnFrom lk_X0_50 iv_X0_goOnFrom ⟨rfl, rfl⟩ ⟨Nat.le_of_ble_eq_true rfl, Nat.le_of_ble_eq_true rfl⟩ hl.1 0 rfl rfl [0, 1, 2, 3, 4, 5, 6, 7, 8, 9, 10, 11, 12, 13, 14] [] [0, 1, 2, 3, 4, 5, 6, 7, 8, 9, 10, 11, 12, 13, 14] rfl rfl rfl rfl (by decide) rfl rfl rfl rfl (Nat.le_of_ble_eq_true rfl) dX0_find_88 ⟨Nat.zero_le _, Nat.zero_le _⟩ (fun H locs hW => ?_)
        refine lv_iinc (v := x1 + 1) (lv' := [(1, .int (x1 + 1)), (2, .int v3), (0, .ref a_t)]) hx hb dX0_find_91 hl (k := 2) rfl rfl (by decide) rfl (fun ls hl => ?_)
        refine lv_goto (tgt := 38) hx hb dX0_find_94 (by decide) ?_
        exact ih _ _ _ _ _ _ _ _ _ _ hf _ _ _ hW (lv_sub hl [2, 0] rfl)
def f_X0_find_9 (N : Nat) (tp_entryCount : Int32) (tp_parameterCounts : Nat → Int32) (tp_lengths : Nat → Int32) (tp_fields : Nat → Int32) (tp_entries : Nat → Int32) : Nat → Int32 → Int32 → (Nat → Int32) → (Nat → Int32) → (Nat → Int32) → (Nat → Int32) → (Nat → Int32) → (Nat → Int32) → (Nat → Int32) → Option (Int32 × (Nat → Int32) × (Nat → Int32) × (Nat → Int32) × (Nat → Int32) × (Nat → Int32) × (Nat → Int32) × (Nat → Int32))
  | 0, _, _, _, _, _, _, _, _, _ => none
  | n + 1, x1, t_waitingCount, tk_comeTo, tk_any, tk_numbers, tr_any, tr_numbers, t_isWaiting, t_waiting => if 6 ≤ x1 then (f_X0_arriveAt N 0 0 t_waitingCount tp_lengths tk_comeTo tk_any tk_numbers tr_any tr_numbers t_isWaiting t_waiting).bind (fun o9 => f_X0_find_38 N tp_entryCount tp_parameterCounts tp_lengths tp_fields tp_entries N 0 o9.1 o9.2.1 o9.2.2.1 o9.2.2.2.1 tr_any tr_numbers o9.2.2.2.2.1 o9.2.2.2.2.2) else (f_X5_putNumber x1 0 tr_any tr_numbers).bind (fun o10 => f_X0_find_9 N tp_entryCount tp_parameterCounts tp_lengths tp_fields tp_entries n (x1 + 1) t_waitingCount tk_comeTo tk_any tk_numbers o10.1 o10.2 t_isWaiting t_waiting)
set_option maxHeartbeats 4000000 in
set_option maxRecDepth 100000 in
theorem b_X0_find_9 {p : Program} {l : Launch} {e : Env} {s : State} {m : MethodId} {args : Array Value} {below : List Frame} {meth : Method} {c : Code} {tA : Nat} {dC : Nat → ClassId} {dI : Nat → Nat → Nat} {cI cZ cJ : ClassId} {A : Nat → Prop} {a_t : Nat} {a_tp : Nat} {a_tp_parameterCounts : Nat} {a_tp_lengths : Nat} {a_tp_fields : Nat} {a_tp_entries : Nat} {a_tk : Nat} {a_tk_comeTo : Nat} {a_tk_any : Nat} {a_tk_numbers : Nat} {a_tr : Nat} {a_tr_any : Nat} {a_tr_numbers : Nat} {a_t_isWaiting : Nat} {a_t_waiting : Nat} {tp_entryCount : Int32} {tp_parameterCounts : Nat → Int32} {tp_lengths : Nat → Int32} {tp_fields : Nat → Int32} {tp_entries : Nat → Int32} {tp_functionCount : Int32} {N : Nat} (hC : g_C p s m meth c args cX0_find 3 (none : Option Jvm.ClassFile.FieldType) RX0) :
    ∀ (n : Nat) (x1 : Int32) (t_waitingCount : Int32) (tk_comeTo : Nat → Int32) (tk_any : Nat → Int32) (tk_numbers : Nat → Int32) (tr_any : Nat → Int32) (tr_numbers : Nat → Int32) (t_isWaiting : Nat → Int32) (t_waiting : Nat → Int32) (out : Int32 × (Nat → Int32) × (Nat → Int32) × (Nat → Int32) × (Nat → Int32) × (Nat → Int32) × (Nat → Int32) × (Nat → Int32)), f_X0_find_9 N tp_entryCount tp_parameterCounts tp_lengths tp_fields tp_entries n x1 t_waitingCount tk_comeTo tk_any tk_numbers tr_any tr_numbers t_isWaiting t_waiting = some out → ∀ (H : Heap) (locs : List Loc) (ls : Array Slot), g_W tA dC dI cI cZ cJ A s H locs (w_X0_find cI cZ cJ a_t a_tp a_tp_parameterCounts a_tp_lengths a_tp_fields a_tp_entries a_tk a_tk_comeTo a_tk_any a_tk_numbers a_tr a_tr_any a_tr_numbers a_t_isWaiting a_t_waiting t_waitingCount tp_functionCount tp_entryCount tp_parameterCounts tp_lengths tp_fields tp_entries tk_comeTo tk_any tk_numbers tr_any tr_numbers t_isWaiting t_waiting) → lv_has ls 3 [(0, .ref a_t), (1, .int x1)] → W p l e r_X0_find s m args below meth c H locs 0 0 (MQ below (g_Qv dC dI cI cZ cJ A (w_X0_find cI cZ cJ a_t a_tp a_tp_parameterCounts a_tp_lengths a_tp_fields a_tp_entries a_tk a_tk_comeTo a_tk_any a_tk_numbers a_tr a_tr_any a_tr_numbers a_t_isWaiting a_t_waiting out.1 tp_functionCount tp_entryCount tp_parameterCounts tp_lengths tp_fields tp_entries out.2.1 out.2.2.1 out.2.2.2.1 out.2.2.2.2.1 out.2.2.2.2.2.1 out.2.2.2.2.2.2.1 out.2.2.2.2.2.2.2)) args s 0 0 A) (F0 m 9 ls []) := by
  have hx := hC.1
  have hb := hC.2.1
  have hown := hC.2.2.2.2.1
  have hts := hC.2.2.2.2.2.1
  intro n
  induction n with
  | zero =>
    intro x1 t_waitingCount tk_comeTo tk_any tk_numbers tr_any tr_numbers t_isWaiting t_waiting out hf
    exact g_no hf
  | succ n ih =>
    intro x1 t_waitingCount tk_comeTo tk_any tk_numbers tr_any tr_numbers t_isWaiting t_waiting out hf H locs ls hW hl
    refine lv_iload_n hx hb dX0_find_9 rfl (lv_at hl 1 rfl) ?_
    refine lv_bipush (v := 6) hx hb dX0_find_10 (by decide) ?_
    refine lv_icmp_ge (tgt := 30) hx hb dX0_find_12 (by decide) (fun c8 => ?_) (fun c8 => ?_)
    · replace hf := (if_pos c8).symm.trans hf
      refine lv_aload_n hx hb dX0_find_30 rfl (lv_at hl 0 rfl) ?_
      refine lv_iconst (v := 0) hx hb dX0_find_31 (by decide) ?_
      refine lv_iconst (v := 0) hx hb dX0_find_32 (by decide) ?_
      obtain ⟨o9, h9, hf⟩ := g_bnd hf
      refine gs_callVv (ws' := w_X0_find cI cZ cJ a_t a_tp a_tp_parameterCounts a_tp_lengths a_tp_fields a_tp_entries a_tk a_tk_comeTo a_tk_any a_tk_numbers a_tr a_tr_any a_tr_numbers a_t_isWaiting a_t_waiting o9.1 tp_functionCount tp_entryCount tp_parameterCounts tp_lengths tp_fields tp_entries o9.2.1 o9.2.2.1 o9.2.2.2.1 tr_any tr_numbers o9.2.2.2.2.1 o9.2.2.2.2.2) hC hW (k_X0_arriveAt l tA dC dI cI cZ cJ a_t a_tp a_tp_lengths a_tk a_tk_comeTo a_tk_any a_tk_numbers a_tr a_tr_any a_tr_numbers a_t_isWaiting a_t_waiting a_tp_parameterCounts a_tp_fields a_tp_entries N 0 0 t_waitingCount tp_functionCount tp_entryCount tp_lengths tk_comeTo tk_any tk_numbers tr_any tr_numbers t_isWaiting t_waiting _ h9) yk_X0_arriveAt lk_X0_47 iv_X0_arriveAt ⟨rfl, rfl⟩ ⟨Nat.le_of_ble_eq_true rfl, Nat.le_of_ble_eq_true rfl⟩ hl.1 0 rfl rfl [0, 1, 3, 6, 7, 8, 9, 10, 11, 12, 13, 14] [2, 4, 5] [3, 4, 0, 5, 1, 2, 6, 7, 8, 9, 10, 11, 12, 13, 14] rfl rfl rfl rfl (by decide) rfl rfl rfl rfl (Nat.le_of_ble_eq_true rfl) dX0_find_33 ⟨Nat.zero_le _, Nat.zero_le _⟩ (fun H locs hW => ?_)
      refine lv_iconst (v := 0) hx hb dX0_find_36 (by decide) ?_
      refine lv_istore_n (lv' := [(1, .int 0), (0, .ref a_t)]) hx hb dX0_find_37 rfl hl (by decide) rfl (fun ls hl => ?_)
      exact b_X0_find_38 hC N _ _ _ _ _ _ _ _ _ _ hf _ _ _ hW (lv_sub hl [1, 0] rfl)
    · replace hf := (if_neg c8).symm.trans hf
      refine lv_aload_n hx hb dX0_find_15 rfl (lv_at hl 0 rfl) ?_
      refine gs_get hC hW in_X0 0 2 rfl rfl (by decide) fl_X0_22 rfl dX0_find_16 ?_
      refine lv_iload_n hx hb dX0_find_19 rfl (lv_at hl 1 rfl) ?_
      refine lv_iconst (v := 0) hx hb dX0_find_20 (by decide) ?_
      obtain ⟨o10, h10, hf⟩ := g_bnd hf
      refine gs_callVv (ws' := w_X0_find cI cZ cJ a_t a_tp a_tp_parameterCounts a_tp_lengths a_tp_fields a_tp_entries a_tk a_tk_comeTo a_tk_any a_tk_numbers a_tr a_tr_any a_tr_numbers a_t_isWaiting a_t_waiting t_waitingCount tp_functionCount tp_entryCount tp_parameterCounts tp_lengths tp_fields tp_entries tk_comeTo tk_any tk_numbers o10.1 o10.2 t_isWaiting t_waiting) hC hW (k_X5_putNumber l tA dC dI cI cZ cJ a_tr a_tr_any a_tr_numbers x1 0 tr_any tr_numbers _ h10) yk_X5_putNumber lk_X0_43 iv_X5_putNumber ⟨rfl, rfl⟩ ⟨Nat.le_of_ble_eq_true rfl, Nat.le_of_ble_eq_true rfl⟩ hl.1 10 rfl rfl [10, 11, 12] [0, 1, 2, 3, 4, 5, 6, 7, 8, 9, 13, 14] [0, 1, 2, 3, 4, 5, 6, 7, 8, 9, 12, 13, 14, 10, 11] rfl rfl rfl rfl (by decide) rfl rfl rfl rfl (Nat.le_of_ble_eq_true rfl) dX0_find_21 ⟨Nat.zero_le _, Nat.zero_le _⟩ (fun H locs hW => ?_)
      refine lv_iinc (v := x1 + 1) (lv' := [(1, .int (x1 + 1)), (0, .ref a_t)]) hx hb dX0_find_24 hl (k := 1) rfl rfl (by decide) rfl (fun ls hl => ?_)
      refine lv_goto (tgt := 9) hx hb dX0_find_27 (by decide) ?_
      exact ih _ _ _ _ _ _ _ _ _ _ hf _ _ _ hW (lv_sub hl [1, 0] rfl)
def f_X0_find (N : Nat) (t_waitingCount : Int32) (tp_entryCount : Int32) (tp_parameterCounts : Nat → Int32) (tp_lengths : Nat → Int32) (tp_fields : Nat → Int32) (tp_entries : Nat → Int32) (tk_comeTo : Nat → Int32) (tk_any : Nat → Int32) (tk_numbers : Nat → Int32) (tr_any : Nat → Int32) (tr_numbers : Nat → Int32) (t_isWaiting : Nat → Int32) (t_waiting : Nat → Int32) : Option (Int32 × (Nat → Int32) × (Nat → Int32) × (Nat → Int32) × (Nat → Int32) × (Nat → Int32) × (Nat → Int32) × (Nat → Int32)) := (f_X1_forget N tk_comeTo).bind (fun o11 => f_X0_find_9 N tp_entryCount tp_parameterCounts tp_lengths tp_fields tp_entries N 0 t_waitingCount o11 tk_any tk_numbers tr_any tr_numbers t_isWaiting t_waiting)
set_option maxHeartbeats 4000000 in
set_option maxRecDepth 100000 in
theorem k_X0_find (l : Launch) (tA : Nat) (dC : Nat → ClassId) (dI : Nat → Nat → Nat) (cI cZ cJ : ClassId) (a_t : Nat) (a_tp : Nat) (a_tp_parameterCounts : Nat) (a_tp_lengths : Nat) (a_tp_fields : Nat) (a_tp_entries : Nat) (a_tk : Nat) (a_tk_comeTo : Nat) (a_tk_any : Nat) (a_tk_numbers : Nat) (a_tr : Nat) (a_tr_any : Nat) (a_tr_numbers : Nat) (a_t_isWaiting : Nat) (a_t_waiting : Nat) (N : Nat) (t_waitingCount : Int32) (tp_functionCount : Int32) (tp_entryCount : Int32) (tp_parameterCounts : Nat → Int32) (tp_lengths : Nat → Int32) (tp_fields : Nat → Int32) (tp_entries : Nat → Int32) (tk_comeTo : Nat → Int32) (tk_any : Nat → Int32) (tk_numbers : Nat → Int32) (tr_any : Nat → Int32) (tr_numbers : Nat → Int32) (t_isWaiting : Nat → Int32) (t_waiting : Nat → Int32) (out : Int32 × (Nat → Int32) × (Nat → Int32) × (Nat → Int32) × (Nat → Int32) × (Nat → Int32) × (Nat → Int32) × (Nat → Int32)) (hf : f_X0_find N t_waitingCount tp_entryCount tp_parameterCounts tp_lengths tp_fields tp_entries tk_comeTo tk_any tk_numbers tr_any tr_numbers t_isWaiting t_waiting = some out) : g_Mv l yX0_find cX0_find 3 (none : Option Jvm.ClassFile.FieldType) r_X0_find tA dC dI cI cZ cJ [.ref a_t] (w_X0_find cI cZ cJ a_t a_tp a_tp_parameterCounts a_tp_lengths a_tp_fields a_tp_entries a_tk a_tk_comeTo a_tk_any a_tk_numbers a_tr a_tr_any a_tr_numbers a_t_isWaiting a_t_waiting t_waitingCount tp_functionCount tp_entryCount tp_parameterCounts tp_lengths tp_fields tp_entries tk_comeTo tk_any tk_numbers tr_any tr_numbers t_isWaiting t_waiting) (w_X0_find cI cZ cJ a_t a_tp a_tp_parameterCounts a_tp_lengths a_tp_fields a_tp_entries a_tk a_tk_comeTo a_tk_any a_tk_numbers a_tr a_tr_any a_tr_numbers a_t_isWaiting a_t_waiting out.1 tp_functionCount tp_entryCount tp_parameterCounts tp_lengths tp_fields tp_entries out.2.1 out.2.2.1 out.2.2.2.1 out.2.2.2.2.1 out.2.2.2.2.2.1 out.2.2.2.2.2.2.1 out.2.2.2.2.2.2.2) := by
  unfold f_X0_find at hf
  refine ge_v (by decide) (Nat.le_of_ble_eq_true rfl) (fun p e s m below meth c A H locs ls hC hW hl => ?_)
  have hC : g_C p s m meth c _ cX0_find 3 (none : Option Jvm.ClassFile.FieldType) RX0 := hC
  have hx := hC.1
  have hb := hC.2.1
  have hown := hC.2.2.2.2.1
  have hts := hC.2.2.2.2.2.1
  have hl : lv_has ls 3 [(0, .ref a_t)] := hl
  refine lv_aload_n hx hb dX0_find_0 rfl (lv_at hl 0 rfl) ?_
  refine gs_get hC hW in_X0 0 1 rfl rfl (by decide) fl_X0_15 rfl dX0_find_1 ?_
  obtain ⟨o11, h11, hf⟩ := g_bnd hf
  refine gs_callVv (ws' := w_X0_find cI cZ cJ a_t a_tp a_tp_parameterCounts a_tp_lengths a_tp_fields a_tp_entries a_tk a_tk_comeTo a_tk_any a_tk_numbers a_tr a_tr_any a_tr_numbers a_t_isWaiting a_t_waiting t_waitingCount tp_functionCount tp_entryCount tp_parameterCounts tp_lengths tp_fields tp_entries o11 tk_any tk_numbers tr_any tr_numbers t_isWaiting t_waiting) hC hW (k_X1_forget l tA dC dI cI cZ cJ a_tk a_tk_comeTo a_tk_any a_tk_numbers N tk_comeTo _ h11) yk_X1_forget lk_X0_38 iv_X1_forget ⟨rfl, rfl⟩ ⟨Nat.le_of_ble_eq_true rfl, Nat.le_of_ble_eq_true rfl⟩ hl.1 6 rfl rfl [6, 7] [0, 1, 2, 3, 4, 5, 8, 9, 10, 11, 12, 13, 14] [0, 1, 2, 3, 4, 5, 13, 14, 6, 7, 8, 9, 10, 11, 12] rfl rfl rfl rfl (by decide) rfl rfl rfl rfl (Nat.le_of_ble_eq_true rfl) dX0_find_4 ⟨Nat.zero_le _, Nat.zero_le _⟩ (fun H locs hW => ?_)
  refine lv_iconst (v := 0) hx hb dX0_find_7 (by decide) ?_
  refine lv_istore_n (lv' := [(1, .int 0), (0, .ref a_t)]) hx hb dX0_find_8 rfl hl (by decide) rfl (fun ls hl => ?_)
  exact b_X0_find_9 hC N _ _ _ _ _ _ _ _ _ _ hf _ _ _ hW (lv_sub hl [1, 0] rfl)
