theorem in_X1 : ∀ w ∈ wsX10, w ∈ gw := by decide +kernel
theorem fl_X1_15 : Cond.fieldLink RX1 15 (TX1 1).1 (TX1 1).2.1 (TX1 1).2.2.1 ∈ gw := gw_i 128 (by decide +kernel) rfl
theorem fl_X1_18 : Cond.fieldLink RX1 18 (TX1 2).1 (TX1 2).2.1 (TX1 2).2.2.1 ∈ gw := gw_i 129 (by decide +kernel) rfl
theorem fl_X1_9 : Cond.fieldLink RX1 9 (TX1 0).1 (TX1 0).2.1 (TX1 0).2.2.1 ∈ gw := gw_i 125 (by decide +kernel) rfl
theorem in_X5 : ∀ w ∈ wsX50, w ∈ gw := by decide +kernel
theorem fl_X1_22 : Cond.fieldLink RX1 22 (TX5 0).1 (TX5 0).2.1 (TX5 0).2.2.1 ∈ gw := gw_i 151 (by decide +kernel) rfl
theorem fl_X1_25 : Cond.fieldLink RX1 25 (TX5 1).1 (TX5 1).2.1 (TX5 1).2.2.1 ∈ gw := gw_i 153 (by decide +kernel) rfl
theorem yk_X1_isReached : g_Y yX1_isReached cX1_isReached 2 (some .boolean) 1 := ⟨gw_i 619 (by decide +kernel) rfl, gw_i 58 (by decide +kernel) rfl, by decide +kernel, by decide +kernel, by decide +kernel⟩
theorem lk_X1_26 : Cond.methodLink RX1 26 yX1_isReached ∈ gw := gw_i 646 (by decide +kernel) rfl
theorem iv_X1_isReached : Cond.instanceMethod yX1_isReached ∈ gw ∧ Cond.selects RX1 yX1_isReached yX1_isReached ∈ gw := ⟨gw_i 617 (by decide +kernel) rfl, gw_i 618 (by decide +kernel) rfl⟩
theorem fl_X5_9 : Cond.fieldLink RX5 9 (TX5 0).1 (TX5 0).2.1 (TX5 0).2.2.1 ∈ gw := gw_i 150 (by decide +kernel) rfl
theorem fl_X5_15 : Cond.fieldLink RX5 15 (TX5 1).1 (TX5 1).2.1 (TX5 1).2.2.1 ∈ gw := gw_i 152 (by decide +kernel) rfl
theorem in_X6 : ∀ w ∈ wsX60, w ∈ gw := by decide +kernel
theorem fl_X6_25 : Cond.fieldLink RX6 25 (TX6 4).1 (TX6 4).2.1 (TX6 4).2.2.1 ∈ gw := gw_i 206 (by decide +kernel) rfl
theorem fl_X6_28 : Cond.fieldLink RX6 28 (TX6 5).1 (TX6 5).2.1 (TX6 5).2.2.1 ∈ gw := gw_i 208 (by decide +kernel) rfl
theorem fl_X6_22 : Cond.fieldLink RX6 22 (TX6 3).1 (TX6 3).2.1 (TX6 3).2.2.1 ∈ gw := gw_i 204 (by decide +kernel) rfl
theorem fl_X6_9 : Cond.fieldLink RX6 9 (TX6 0).1 (TX6 0).2.1 (TX6 0).2.2.1 ∈ gw := gw_i 197 (by decide +kernel) rfl
theorem fl_X6_15 : Cond.fieldLink RX6 15 (TX6 1).1 (TX6 1).2.1 (TX6 1).2.2.1 ∈ gw := gw_i 200 (by decide +kernel) rfl
theorem fl_X6_18 : Cond.fieldLink RX6 18 (TX6 2).1 (TX6 2).2.1 (TX6 2).2.2.1 ∈ gw := gw_i 202 (by decide +kernel) rfl
theorem lk_X7_224 : Cond.methodLink RX7 224 yX7_isNumber ∈ gw := gw_i 445 (by decide +kernel) rfl
theorem yk_X7_isNumber : g_Y yX7_isNumber cX7_isNumber 1 (some .boolean) 1 := ⟨gw_i 447 (by decide +kernel) rfl, gw_i 56 (by decide +kernel) rfl, by decide +kernel, by decide +kernel, by decide +kernel⟩
theorem is_X7_isNumber : Cond.static yX7_isNumber ∈ gw := gw_i 446 (by decide +kernel) rfl
theorem lk_X7_221 : Cond.methodLink RX7 221 yX7_isOperand ∈ gw := gw_i 442 (by decide +kernel) rfl
theorem yk_X7_isOperand : g_Y yX7_isOperand cX7_isOperand 1 (some .boolean) 1 := ⟨gw_i 444 (by decide +kernel) rfl, gw_i 56 (by decide +kernel) rfl, by decide +kernel, by decide +kernel, by decide +kernel⟩
theorem is_X7_isOperand : Cond.static yX7_isOperand ∈ gw := gw_i 443 (by decide +kernel) rfl
abbrev w_X1_hasNumber (cI cZ cJ : ClassId) (a_t : Nat) (a_t_any : Nat) (a_t_comeTo : Nat) (a_t_numbers : Nat) (t_any : Nat → Int32) : va_W := [(a_t, .inr (1, [.ref a_t_comeTo, .ref a_t_any, .ref a_t_numbers])), (a_t_any, .inl (cZ, 1224, .inl t_any))]
abbrev r_X1_hasNumber : Room := { frames := 0, cells := 0, slots := 0, locals := 0 }
def f_X1_hasNumber (x1 : Int32) (x2 : Int32) (t_any : Nat → Int32) : Option (Int32) := if 6 ≤ (x2 &&& 7) then some 1 else (g_rd 1224 t_any ((x1 * 6) + (x2 &&& 7))).bind (fun v2 => if v2 = 0 then some 1 else some 0)
set_option maxHeartbeats 4000000 in
set_option maxRecDepth 100000 in
theorem k_X1_hasNumber (l : Launch) (tA : Nat) (dC : Nat → ClassId) (dI : Nat → Nat → Nat) (cI cZ cJ : ClassId) (a_t : Nat) (a_t_any : Nat) (a_t_comeTo : Nat) (a_t_numbers : Nat) (x1 : Int32) (x2 : Int32) (t_any : Nat → Int32) (out : Int32) (hf : f_X1_hasNumber x1 x2 t_any = some out) : g_Mi l yX1_hasNumber cX1_hasNumber 4 (some .boolean) r_X1_hasNumber tA dC dI cI cZ cJ [.ref a_t, .int x1, .int x2] (w_X1_hasNumber cI cZ cJ a_t a_t_any a_t_comeTo a_t_numbers t_any) (w_X1_hasNumber cI cZ cJ a_t a_t_any a_t_comeTo a_t_numbers t_any) out := by
  unfold f_X1_hasNumber at hf
  refine ge_i (by decide) (Nat.le_of_ble_eq_true rfl) (fun p e s m below meth c A H locs ls hC hW hl => ?_)
  have hC : g_C p s m meth c _ cX1_hasNumber 4 (some .boolean) RX1 := hC
  have hx := hC.1
  have hb := hC.2.1
  have hown := hC.2.2.2.2.1
  have hts := hC.2.2.2.2.2.1
  have hl : lv_has ls 4 [(0, .ref a_t), (1, .int x1), (2, .int x2)] := hl
  refine lv_iload_n hx hb dX1_hasNumber_0 rfl (lv_at hl 2 rfl) ?_
  refine lv_bipush (v := 7) hx hb dX1_hasNumber_1 (by decide) ?_
  refine lv_iand hx hb dX1_hasNumber_3 ?_
  refine lv_istore_n (lv' := [(3, .int (x2 &&& 7)), (0, .ref a_t), (1, .int x1), (2, .int x2)]) hx hb dX1_hasNumber_4 rfl hl (by decide) rfl (fun ls hl => ?_)
  refine lv_iload_n hx hb dX1_hasNumber_5 rfl (lv_at hl 0 rfl) ?_
  refine lv_bipush (v := 6) hx hb dX1_hasNumber_6 (by decide) ?_
  refine lv_icmp_ge (tgt := 25) hx hb dX1_hasNumber_8 (by decide) (fun c1 => ?_) (fun c1 => ?_)
  · replace hf := (if_pos c1).symm.trans hf
    refine lv_iconst (v := 1) hx hb dX1_hasNumber_25 (by decide) ?_
    refine lv_goto (tgt := 30) hx hb dX1_hasNumber_26 (by decide) ?_
    obtain rfl := Option.some.inj hf
    exact gs_rz hC hW rfl g_n1 dX1_hasNumber_30
  · replace hf := (if_neg c1).symm.trans hf
    refine lv_aload_n hx hb dX1_hasNumber_11 rfl (lv_at hl 1 rfl) ?_
    refine gs_get hC hW in_X1 0 1 rfl rfl (by decide) fl_X1_15 rfl dX1_hasNumber_12 ?_
    refine lv_iload_n hx hb dX1_hasNumber_15 rfl (lv_at hl 2 rfl) ?_
    refine lv_bipush (v := 6) hx hb dX1_hasNumber_16 (by decide) ?_
    refine lv_imul hx hb dX1_hasNumber_18 ?_
    refine lv_iload_n hx hb dX1_hasNumber_19 rfl (lv_at hl 0 rfl) ?_
    refine lv_iadd hx hb dX1_hasNumber_20 ?_
    obtain ⟨v2, h2, hf⟩ := g_bnd hf
    refine gs_zald hC hW 1 h2 rfl dX1_hasNumber_21 ?_
    refine lv_if_ne (tgt := 29) hx hb dX1_hasNumber_22 (by decide) (fun c3 => ?_) (fun c3 => ?_)
    · replace hf := (if_neg c3).symm.trans hf
      refine lv_iconst (v := 0) hx hb dX1_hasNumber_29 (by decide) ?_
      obtain rfl := Option.some.inj hf
      exact gs_rz hC hW rfl g_n0 dX1_hasNumber_30
    · replace hf := (if_pos c3).symm.trans hf
      refine lv_iconst (v := 1) hx hb dX1_hasNumber_25 (by decide) ?_
      refine lv_goto (tgt := 30) hx hb dX1_hasNumber_26 (by decide) ?_
      obtain rfl := Option.some.inj hf
      exact gs_rz hC hW rfl g_n1 dX1_hasNumber_30

abbrev w_X1_numberOf (cI cZ cJ : ClassId) (a_t : Nat) (a_t_numbers : Nat) (a_t_comeTo : Nat) (a_t_any : Nat) (t_numbers : Nat → Int32) : va_W := [(a_t, .inr (1, [.ref a_t_comeTo, .ref a_t_any, .ref a_t_numbers])), (a_t_numbers, .inl (cI, 1224, .inl t_numbers))]
abbrev r_X1_numberOf : Room := { frames := 0, cells := 0, slots := 0, locals := 0 }
def f_X1_numberOf (x1 : Int32) (x2 : Int32) (t_numbers : Nat → Int32) : Option (Int32) := if 6 ≤ (x2 &&& 7) then some (x2 >>> (3 &&& 31)) else (g_rd 1224 t_numbers ((x1 * 6) + (x2 &&& 7))).bind (fun v2 => some v2)
set_option maxHeartbeats 4000000 in
set_option maxRecDepth 100000 in
theorem k_X1_numberOf (l : Launch) (tA : Nat) (dC : Nat → ClassId) (dI : Nat → Nat → Nat) (cI cZ cJ : ClassId) (a_t : Nat) (a_t_numbers : Nat) (a_t_comeTo : Nat) (a_t_any : Nat) (x1 : Int32) (x2 : Int32) (t_numbers : Nat → Int32) (out : Int32) (hf : f_X1_numberOf x1 x2 t_numbers = some out) : g_Mi l yX1_numberOf cX1_numberOf 4 (some .int) r_X1_numberOf tA dC dI cI cZ cJ [.ref a_t, .int x1, .int x2] (w_X1_numberOf cI cZ cJ a_t a_t_numbers a_t_comeTo a_t_any t_numbers) (w_X1_numberOf cI cZ cJ a_t a_t_numbers a_t_comeTo a_t_any t_numbers) out := by
  unfold f_X1_numberOf at hf
  refine ge_i (by decide) (Nat.le_of_ble_eq_true rfl) (fun p e s m below meth c A H locs ls hC hW hl => ?_)
  have hC : g_C p s m meth c _ cX1_numberOf 4 (some .int) RX1 := hC
  have hx := hC.1
  have hb := hC.2.1
  have hown := hC.2.2.2.2.1
  have hts := hC.2.2.2.2.2.1
  have hl : lv_has ls 4 [(0, .ref a_t), (1, .int x1), (2, .int x2)] := hl
  refine lv_iload_n hx hb dX1_numberOf_0 rfl (lv_at hl 2 rfl) ?_
  refine lv_bipush (v := 7) hx hb dX1_numberOf_1 (by decide) ?_
  refine lv_iand hx hb dX1_numberOf_3 ?_
  refine lv_istore_n (lv' := [(3, .int (x2 &&& 7)), (0, .ref a_t), (1, .int x1), (2, .int x2)]) hx hb dX1_numberOf_4 rfl hl (by decide) rfl (fun ls hl => ?_)
  refine lv_iload_n hx hb dX1_numberOf_5 rfl (lv_at hl 0 rfl) ?_
  refine lv_bipush (v := 6) hx hb dX1_numberOf_6 (by decide) ?_
  refine lv_icmp_ge (tgt := 25) hx hb dX1_numberOf_8 (by decide) (fun c1 => ?_) (fun c1 => ?_)
  · replace hf := (if_pos c1).symm.trans hf
    refine lv_iload_n hx hb dX1_numberOf_25 rfl (lv_at hl 3 rfl) ?_
    refine lv_iconst (v := 3) hx hb dX1_numberOf_26 (by decide) ?_
    refine lv_ishr hx hb dX1_numberOf_27 ?_
    obtain rfl := Option.some.inj hf
    exact gs_ri hC hW rfl dX1_numberOf_28
  · replace hf := (if_neg c1).symm.trans hf
    refine lv_aload_n hx hb dX1_numberOf_11 rfl (lv_at hl 1 rfl) ?_
    refine gs_get hC hW in_X1 0 2 rfl rfl (by decide) fl_X1_18 rfl dX1_numberOf_12 ?_
    refine lv_iload_n hx hb dX1_numberOf_15 rfl (lv_at hl 2 rfl) ?_
    refine lv_bipush (v := 6) hx hb dX1_numberOf_16 (by decide) ?_
    refine lv_imul hx hb dX1_numberOf_18 ?_
    refine lv_iload_n hx hb dX1_numberOf_19 rfl (lv_at hl 0 rfl) ?_
    refine lv_iadd hx hb dX1_numberOf_20 ?_
    obtain ⟨v2, h2, hf⟩ := g_bnd hf
    refine gs_iald hC hW 1 h2 rfl dX1_numberOf_21 ?_
    refine lv_goto (tgt := 28) hx hb dX1_numberOf_22 (by decide) ?_
    obtain rfl := Option.some.inj hf
    exact gs_ri hC hW rfl dX1_numberOf_28

abbrev w_X1_isReached (cI cZ cJ : ClassId) (a_t : Nat) (a_t_comeTo : Nat) (a_t_any : Nat) (a_t_numbers : Nat) (t_comeTo : Nat → Int32) : va_W := [(a_t, .inr (1, [.ref a_t_comeTo, .ref a_t_any, .ref a_t_numbers])), (a_t_comeTo, .inl (cZ, 204, .inl t_comeTo))]
abbrev r_X1_isReached : Room := { frames := 0, cells := 0, slots := 0, locals := 0 }
def f_X1_isReached (x1 : Int32) (t_comeTo : Nat → Int32) : Option (Int32) := (g_rd 204 t_comeTo (x1 * 17)).bind (fun v1 => (g_zr v1).bind (fun v2 => some v2))
set_option maxHeartbeats 4000000 in
set_option maxRecDepth 100000 in
theorem k_X1_isReached (l : Launch) (tA : Nat) (dC : Nat → ClassId) (dI : Nat → Nat → Nat) (cI cZ cJ : ClassId) (a_t : Nat) (a_t_comeTo : Nat) (a_t_any : Nat) (a_t_numbers : Nat) (x1 : Int32) (t_comeTo : Nat → Int32) (out : Int32) (hf : f_X1_isReached x1 t_comeTo = some out) : g_Mi l yX1_isReached cX1_isReached 2 (some .boolean) r_X1_isReached tA dC dI cI cZ cJ [.ref a_t, .int x1] (w_X1_isReached cI cZ cJ a_t a_t_comeTo a_t_any a_t_numbers t_comeTo) (w_X1_isReached cI cZ cJ a_t a_t_comeTo a_t_any a_t_numbers t_comeTo) out := by
  unfold f_X1_isReached at hf
  refine ge_i (by decide) (Nat.le_of_ble_eq_true rfl) (fun p e s m below meth c A H locs ls hC hW hl => ?_)
  have hC : g_C p s m meth c _ cX1_isReached 2 (some .boolean) RX1 := hC
  have hx := hC.1
  have hb := hC.2.1
  have hown := hC.2.2.2.2.1
  have hts := hC.2.2.2.2.2.1
  have hl : lv_has ls 2 [(0, .ref a_t), (1, .int x1)] := hl
  refine lv_aload_n hx hb dX1_isReached_0 rfl (lv_at hl 0 rfl) ?_
  refine gs_get hC hW in_X1 0 0 rfl rfl (by decide) fl_X1_9 rfl dX1_isReached_1 ?_
  refine lv_iload_n hx hb dX1_isReached_4 rfl (lv_at hl 1 rfl) ?_
  refine lv_bipush (v := 17) hx hb dX1_isReached_5 (by decide) ?_
  refine lv_imul hx hb dX1_isReached_7 ?_
  obtain ⟨v1, h1, hf⟩ := g_bnd hf
  refine gs_zald hC hW 1 h1 rfl dX1_isReached_8 ?_
  obtain ⟨v2, h2, hf⟩ := g_bnd hf
  obtain ⟨rfl, hn, -⟩ := g_zr_ok h2
  obtain rfl := Option.some.inj hf
  exact gs_rz hC hW rfl hn dX1_isReached_9

abbrev w_X1_forget (cI cZ cJ : ClassId) (a_t : Nat) (a_t_comeTo : Nat) (a_t_any : Nat) (a_t_numbers : Nat) (t_comeTo : Nat → Int32) : va_W := [(a_t, .inr (1, [.ref a_t_comeTo, .ref a_t_any, .ref a_t_numbers])), (a_t_comeTo, .inl (cZ, 204, .inl t_comeTo))]
abbrev r_X1_forget : Room := { frames := 0, cells := 0, slots := 0, locals := 0 }
def f_X1_forget_2 (N : Nat) : Nat → Int32 → (Nat → Int32) → Option (Nat → Int32)
  | 0, _, _ => none
  | n + 1, x1, t_comeTo => if 204 ≤ x1 then some t_comeTo else (g_wz 204 t_comeTo x1 0).bind (fun s2 => f_X1_forget_2 N n (x1 + 1) s2)
set_option maxHeartbeats 4000000 in
set_option maxRecDepth 100000 in
theorem b_X1_forget_2 {p : Program} {l : Launch} {e : Env} {s : State} {m : MethodId} {args : Array Value} {below : List Frame} {meth : Method} {c : Code} {tA : Nat} {dC : Nat → ClassId} {dI : Nat → Nat → Nat} {cI cZ cJ : ClassId} {A : Nat → Prop} {a_t : Nat} {a_t_comeTo : Nat} {a_t_any : Nat} {a_t_numbers : Nat} {N : Nat} (hC : g_C p s m meth c args cX1_forget 2 (none : Option Jvm.ClassFile.FieldType) RX1) :
    ∀ (n : Nat) (x1 : Int32) (t_comeTo : Nat → Int32) (out : Nat → Int32), f_X1_forget_2 N n x1 t_comeTo = some out → ∀ (H : Heap) (locs : List Loc) (ls : Array Slot), g_W tA dC dI cI cZ cJ A s H locs (w_X1_forget cI cZ cJ a_t a_t_comeTo a_t_any a_t_numbers t_comeTo) → lv_has ls 2 [(0, .ref a_t), (1, .int x1)] → W p l e r_X1_forget s m args below meth c H locs 0 0 (MQ below (g_Qv dC dI cI cZ cJ A (w_X1_forget cI cZ cJ a_t a_t_comeTo a_t_any a_t_numbers out)) args s 0 0 A) (F0 m 2 ls []) := by
  have hx := hC.1
  have hb := hC.2.1
  have hown := hC.2.2.2.2.1
  have hts := hC.2.2.2.2.2.1
  intro n
  induction n with
  | zero =>
    intro x1 t_comeTo out hf
    exact g_no hf
  | succ n ih =>
    intro x1 t_comeTo out hf H locs ls hW hl
    refine lv_iload_n hx hb dX1_forget_2 rfl (lv_at hl 1 rfl) ?_
    refine lv_aload_n hx hb dX1_forget_3 rfl (lv_at hl 0 rfl) ?_
    refine gs_get hC hW in_X1 0 0 rfl rfl (by decide) fl_X1_9 rfl dX1_forget_4 ?_
    refine gs_len (v := 204) hC hW 1 1 rfl rfl (by decide) dX1_forget_7 ?_
    refine lv_icmp_ge (tgt := 24) hx hb dX1_forget_8 (by decide) (fun c1 => ?_) (fun c1 => ?_)
    · replace hf := (if_pos c1).symm.trans hf
      obtain rfl := Option.some.inj hf
      exact gs_rv hC hW rfl dX1_forget_24
    · replace hf := (if_neg c1).symm.trans hf
      refine lv_aload_n hx hb dX1_forget_11 rfl (lv_at hl 0 rfl) ?_
      refine gs_get hC hW in_X1 0 0 rfl rfl (by decide) fl_X1_9 rfl dX1_forget_12 ?_
      refine lv_iload_n hx hb dX1_forget_15 rfl (lv_at hl 1 rfl) ?_
      refine lv_iconst (v := 0) hx hb dX1_forget_16 (by decide) ?_
      obtain ⟨s2, h2, hf⟩ := g_bnd hf
      refine gs_zast (ws' := w_X1_forget cI cZ cJ a_t a_t_comeTo a_t_any a_t_numbers s2) hC hW 1 h2 rfl rfl dX1_forget_17 (fun H locs hW => ?_)
      refine lv_iinc (v := x1 + 1) (lv' := [(1, .int (x1 + 1)), (0, .ref a_t)]) hx hb dX1_forget_18 hl (k := 1) rfl rfl (by decide) rfl (fun ls hl => ?_)
      refine lv_goto (tgt := 2) hx hb dX1_forget_21 (by decide) ?_
      exact ih _ _ _ hf _ _ _ hW (lv_sub hl [1, 0] rfl)
def f_X1_forget (N : Nat) (t_comeTo : Nat → Int32) : Option (Nat → Int32) := f_X1_forget_2 N N 0 t_comeTo
set_option maxHeartbeats 4000000 in
set_option maxRecDepth 100000 in
theorem k_X1_forget (l : Launch) (tA : Nat) (dC : Nat → ClassId) (dI : Nat → Nat → Nat) (cI cZ cJ : ClassId) (a_t : Nat) (a_t_comeTo : Nat) (a_t_any : Nat) (a_t_numbers : Nat) (N : Nat) (t_comeTo : Nat → Int32) (out : Nat → Int32) (hf : f_X1_forget N t_comeTo = some out) : g_Mv l yX1_forget cX1_forget 2 (none : Option Jvm.ClassFile.FieldType) r_X1_forget tA dC dI cI cZ cJ [.ref a_t] (w_X1_forget cI cZ cJ a_t a_t_comeTo a_t_any a_t_numbers t_comeTo) (w_X1_forget cI cZ cJ a_t a_t_comeTo a_t_any a_t_numbers out) := by
  unfold f_X1_forget at hf
  refine ge_v (by decide) (Nat.le_of_ble_eq_true rfl) (fun p e s m below meth c A H locs ls hC hW hl => ?_)
  have hC : g_C p s m meth c _ cX1_forget 2 (none : Option Jvm.ClassFile.FieldType) RX1 := hC
  have hx := hC.1
  have hb := hC.2.1
  have hown := hC.2.2.2.2.1
  have hts := hC.2.2.2.2.2.1
  have hl : lv_has ls 2 [(0, .ref a_t)] := hl
  refine lv_iconst (v := 0) hx hb dX1_forget_0 (by decide) ?_
  refine lv_istore_n (lv' := [(1, .int 0), (0, .ref a_t)]) hx hb dX1_forget_1 rfl hl (by decide) rfl (fun ls hl => ?_)
  exact b_X1_forget_2 hC N _ _ _ hf _ _ _ hW (lv_sub hl [1, 0] rfl)

abbrev w_X1_join (cI cZ cJ : ClassId) (a_t : Nat) (a_t_comeTo : Nat) (a_t_any : Nat) (a_t_numbers : Nat) (a_u : Nat) (a_u_any : Nat) (a_u_numbers : Nat) (t_comeTo : Nat → Int32) (t_any : Nat → Int32) (t_numbers : Nat → Int32) (u_any : Nat → Int32) (u_numbers : Nat → Int32) : va_W := [(a_t, .inr (1, [.ref a_t_comeTo, .ref a_t_any, .ref a_t_numbers])), (a_t_comeTo, .inl (cZ, 204, .inl t_comeTo)), (a_t_any, .inl (cZ, 1224, .inl t_any)), (a_t_numbers, .inl (cI, 1224, .inl t_numbers)), (a_u, .inr (5, [.ref a_u_any, .ref a_u_numbers])), (a_u_any, .inl (cZ, 6, .inl u_any)), (a_u_numbers, .inl (cI, 6, .inl u_numbers))]
abbrev r_X1_join : Room := { frames := 0, cells := 0, slots := 0, locals := 0 }
def f_X1_join_28 (N : Nat) (x1 : Int32) (u_any : Nat → Int32) (u_numbers : Nat → Int32) : Nat → Int32 → Int32 → Int32 → (Nat → Int32) → (Nat → Int32) → (Nat → Int32) → Option (Int32 × (Nat → Int32) × (Nat → Int32) × (Nat → Int32))
  | 0, _, _, _, _, _, _ => none
  | n + 1, x3, x4, x5, t_comeTo, t_any, t_numbers => if 6 ≤ x5 then (g_zr x4).bind (fun v2 => some (v2, t_comeTo, t_any, t_numbers)) else if x3 = 0 then (g_rd 1224 t_any ((x1 * 6) + x5)).bind (fun v4 => if v4 = 0 then (g_rd 6 u_any x5).bind (fun v6 => if v6 = 0 then (g_rd 6 u_numbers x5).bind (fun v9 => (g_rd 1224 t_numbers ((x1 * 6) + x5)).bind (fun v10 => if v9 = v10 then f_X1_join_28 N x1 u_any u_numbers n x3 x4 (x5 + 1) t_comeTo t_any t_numbers else (g_wz 1224 t_any ((x1 * 6) + x5) 1).bind (fun s12 => f_X1_join_28 N x1 u_any u_numbers n x3 1 (x5 + 1) t_comeTo s12 t_numbers))) else (g_wz 1224 t_any ((x1 * 6) + x5) 1).bind (fun s8 => f_X1_join_28 N x1 u_any u_numbers n x3 1 (x5 + 1) t_comeTo s8 t_numbers)) else f_X1_join_28 N x1 u_any u_numbers n x3 x4 (x5 + 1) t_comeTo t_any t_numbers) else (g_rd 6 u_any x5).bind (fun v13 => (g_wz 1224 t_any ((x1 * 6) + x5) v13).bind (fun s14 => (g_rd 6 u_numbers x5).bind (fun v15 => (g_wr 1224 t_numbers ((x1 * 6) + x5) v15).bind (fun s16 => f_X1_join_28 N x1 u_any u_numbers n x3 x4 (x5 + 1) t_comeTo s14 s16))))
set_option maxHeartbeats 4000000 in
set_option maxRecDepth 100000 in
theorem b_X1_join_28 {p : Program} {l : Launch} {e : Env} {s : State} {m : MethodId} {args : Array Value} {below : List Frame} {meth : Method} {c : Code} {tA : Nat} {dC : Nat → ClassId} {dI : Nat → Nat → Nat} {cI cZ cJ : ClassId} {A : Nat → Prop} {a_t : Nat} {a_t_comeTo : Nat} {a_t_any : Nat} {a_t_numbers : Nat} {a_u : Nat} {a_u_any : Nat} {a_u_numbers : Nat} {x1 : Int32} {u_any : Nat → Int32} {u_numbers : Nat → Int32} {N : Nat} (hC : g_C p s m meth c args cX1_join 7 (some .boolean) RX1) :
    ∀ (n : Nat) (x3 : Int32) (x4 : Int32) (x5 : Int32) (t_comeTo : Nat → Int32) (t_any : Nat → Int32) (t_numbers : Nat → Int32) (out : Int32 × (Nat → Int32) × (Nat → Int32) × (Nat → Int32)), f_X1_join_28 N x1 u_any u_numbers n x3 x4 x5 t_comeTo t_any t_numbers = some out → ∀ (H : Heap) (locs : List Loc) (ls : Array Slot), g_W tA dC dI cI cZ cJ A s H locs (w_X1_join cI cZ cJ a_t a_t_comeTo a_t_any a_t_numbers a_u a_u_any a_u_numbers t_comeTo t_any t_numbers u_any u_numbers) → lv_has ls 7 [(0, .ref a_t), (2, .ref a_u), (1, .int x1), (3, .int x3), (4, .int x4), (5, .int x5)] → W p l e r_X1_join s m args below meth c H locs 0 0 (MQ below (g_Qi dC dI cI cZ cJ A (w_X1_join cI cZ cJ a_t a_t_comeTo a_t_any a_t_numbers a_u a_u_any a_u_numbers out.2.1 out.2.2.1 out.2.2.2 u_any u_numbers) out.1) args s 0 0 A) (F0 m 28 ls []) := by
  have hx := hC.1
  have hb := hC.2.1
  have hown := hC.2.2.2.2.1
  have hts := hC.2.2.2.2.2.1
  intro n
  induction n with
  | zero =>
    intro x3 x4 x5 t_comeTo t_any t_numbers out hf
    exact g_no hf
  | succ n ih =>
    intro x3 x4 x5 t_comeTo t_any t_numbers out hf H locs ls hW hl
    refine lv_iload hx hb dX1_join_28 (lv_at hl 5 rfl) ?_
    refine lv_bipush (v := 6) hx hb dX1_join_30 (by decide) ?_
    refine lv_icmp_ge (tgt := 133) hx hb dX1_join_32 (by decide) (fun c1 => ?_) (fun c1 => ?_)
    · replace hf := (if_pos c1).symm.trans hf
      refine lv_iload hx hb dX1_join_133 (lv_at hl 4 rfl) ?_
      obtain ⟨v2, h2, hf⟩ := g_bnd hf
      obtain ⟨rfl, hn, -⟩ := g_zr_ok h2
      obtain rfl := Option.some.inj hf
      exact gs_rz hC hW rfl hn dX1_join_135
    · replace hf := (if_neg c1).symm.trans hf
      refine lv_iload_n hx hb dX1_join_35 rfl (lv_at hl 2 rfl) ?_
      refine lv_bipush (v := 6) hx hb dX1_join_36 (by decide) ?_
      refine lv_imul hx hb dX1_join_38 ?_
      refine lv_iload hx hb dX1_join_39 (lv_at hl 5 rfl) ?_
      refine lv_iadd hx hb dX1_join_41 ?_
      refine lv_istore (lv' := [(6, .int ((x1 * 6) + x5)), (0, .ref a_t), (2, .ref a_u), (1, .int x1), (3, .int x3), (4, .int x4), (5, .int x5)]) hx hb dX1_join_42 hl (by decide) rfl (fun ls hl => ?_)
      refine lv_iload_n hx hb dX1_join_44 rfl (lv_at hl 4 rfl) ?_
      refine lv_if_eq (tgt := 79) hx hb dX1_join_45 (by decide) (fun c3 => ?_) (fun c3 => ?_)
      · replace hf := (if_pos c3).symm.trans hf
        refine lv_aload_n hx hb dX1_join_79 rfl (lv_at hl 1 rfl) ?_
        refine gs_get hC hW in_X1 0 1 rfl rfl (by decide) fl_X1_15 rfl dX1_join_80 ?_
        refine lv_iload hx hb dX1_join_83 (lv_at hl 0 rfl) ?_
        obtain ⟨v4, h4, hf⟩ := g_bnd hf
        refine gs_zald hC hW 2 h4 rfl dX1_join_85 ?_
        refine lv_if_ne (tgt := 127) hx hb dX1_join_86 (by decide) (fun c5 => ?_) (fun c5 => ?_)
        · replace hf := (if_neg c5).symm.trans hf
          refine lv_iinc (v := x5 + 1) (lv' := [(5, .int (x5 + 1)), (6, .int ((x1 * 6) + x5)), (0, .ref a_t), (2, .ref a_u), (1, .int x1), (3, .int x3), (4, .int x4)]) hx hb dX1_join_127 hl (k := 6) rfl rfl (by decide) rfl (fun ls hl => ?_)
          refine lv_goto (tgt := 28) hx hb dX1_join_130 (by decide) ?_
          exact ih _ _ _ _ _ _ _ hf _ _ _ hW (lv_sub hl [2, 3, 4, 5, 6, 0] rfl)
        · replace hf := (if_pos c5).symm.trans hf
          refine lv_aload_n hx hb dX1_join_89 rfl (lv_at hl 2 rfl) ?_
          refine gs_get hC hW in_X5 4 0 rfl rfl (by decide) fl_X1_22 rfl dX1_join_90 ?_
          refine lv_iload hx hb dX1_join_93 (lv_at hl 6 rfl) ?_
          obtain ⟨v6, h6, hf⟩ := g_bnd hf
          refine gs_zald hC hW 5 h6 rfl dX1_join_95 ?_
          refine lv_if_ne (tgt := 116) hx hb dX1_join_96 (by decide) (fun c7 => ?_) (fun c7 => ?_)
          · replace hf := (if_neg c7).symm.trans hf
            refine lv_aload_n hx hb dX1_join_116 rfl (lv_at hl 1 rfl) ?_
            refine gs_get hC hW in_X1 0 1 rfl rfl (by decide) fl_X1_15 rfl dX1_join_117 ?_
            refine lv_iload hx hb dX1_join_120 (lv_at hl 0 rfl) ?_
            refine lv_iconst (v := 1) hx hb dX1_join_122 (by decide) ?_
            obtain ⟨s8, h8, hf⟩ := g_bnd hf
            refine gs_zast (ws' := w_X1_join cI cZ cJ a_t a_t_comeTo a_t_any a_t_numbers a_u a_u_any a_u_numbers t_comeTo s8 t_numbers u_any u_numbers) hC hW 2 h8 rfl rfl dX1_join_123 (fun H locs hW => ?_)
            refine lv_iconst (v := 1) hx hb dX1_join_124 (by decide) ?_
            refine lv_istore (lv' := [(4, .int 1), (6, .int ((x1 * 6) + x5)), (0, .ref a_t), (2, .ref a_u), (1, .int x1), (3, .int x3), (5, .int x5)]) hx hb dX1_join_125 hl (by decide) rfl (fun ls hl => ?_)
            refine lv_iinc (v := x5 + 1) (lv' := [(5, .int (x5 + 1)), (4, .int 1), (6, .int ((x1 * 6) + x5)), (0, .ref a_t), (2, .ref a_u), (1, .int x1), (3, .int x3)]) hx hb dX1_join_127 hl (k := 6) rfl rfl (by decide) rfl (fun ls hl => ?_)
            refine lv_goto (tgt := 28) hx hb dX1_join_130 (by decide) ?_
            exact ih _ _ _ _ _ _ _ hf _ _ _ hW (lv_sub hl [3, 4, 5, 6, 1, 0] rfl)
          · replace hf := (if_pos c7).symm.trans hf
            refine lv_aload_n hx hb dX1_join_99 rfl (lv_at hl 2 rfl) ?_
            refine gs_get hC hW in_X5 4 1 rfl rfl (by decide) fl_X1_25 rfl dX1_join_100 ?_
            refine lv_iload hx hb dX1_join_103 (lv_at hl 6 rfl) ?_
            obtain ⟨v9, h9, hf⟩ := g_bnd hf
            refine gs_iald hC hW 6 h9 rfl dX1_join_105 ?_
            refine lv_aload_n hx hb dX1_join_106 rfl (lv_at hl 1 rfl) ?_
            refine gs_get hC hW in_X1 0 2 rfl rfl (by decide) fl_X1_18 rfl dX1_join_107 ?_
            refine lv_iload hx hb dX1_join_110 (lv_at hl 0 rfl) ?_
            obtain ⟨v10, h10, hf⟩ := g_bnd hf
            refine gs_iald hC hW 3 h10 rfl dX1_join_112 ?_
            refine lv_icmp_eq (tgt := 127) hx hb dX1_join_113 (by decide) (fun c11 => ?_) (fun c11 => ?_)
            · replace hf := (if_pos c11).symm.trans hf
              refine lv_iinc (v := x5 + 1) (lv' := [(5, .int (x5 + 1)), (6, .int ((x1 * 6) + x5)), (0, .ref a_t), (2, .ref a_u), (1, .int x1), (3, .int x3), (4, .int x4)]) hx hb dX1_join_127 hl (k := 6) rfl rfl (by decide) rfl (fun ls hl => ?_)
              refine lv_goto (tgt := 28) hx hb dX1_join_130 (by decide) ?_
              exact ih _ _ _ _ _ _ _ hf _ _ _ hW (lv_sub hl [2, 3, 4, 5, 6, 0] rfl)
            · replace hf := (if_neg c11).symm.trans hf
              refine lv_aload_n hx hb dX1_join_116 rfl (lv_at hl 1 rfl) ?_
              refine gs_get hC hW in_X1 0 1 rfl rfl (by decide) fl_X1_15 rfl dX1_join_117 ?_
              refine lv_iload hx hb dX1_join_120 (lv_at hl 0 rfl) ?_
              refine lv_iconst (v := 1) hx hb dX1_join_122 (by decide) ?_
              obtain ⟨s12, h12, hf⟩ := g_bnd hf
              refine gs_zast (ws' := w_X1_join cI cZ cJ a_t a_t_comeTo a_t_any a_t_numbers a_u a_u_any a_u_numbers t_comeTo s12 t_numbers u_any u_numbers) hC hW 2 h12 rfl rfl dX1_join_123 (fun H locs hW => ?_)
              refine lv_iconst (v := 1) hx hb dX1_join_124 (by decide) ?_
              refine lv_istore (lv' := [(4, .int 1), (6, .int ((x1 * 6) + x5)), (0, .ref a_t), (2, .ref a_u), (1, .int x1), (3, .int x3), (5, .int x5)]) hx hb dX1_join_125 hl (by decide) rfl (fun ls hl => ?_)
              refine lv_iinc (v := x5 + 1) (lv' := [(5, .int (x5 + 1)), (4, .int 1), (6, .int ((x1 * 6) + x5)), (0, .ref a_t), (2, .ref a_u), (1, .int x1), (3, .int x3)]) hx hb dX1_join_127 hl (k := 6) rfl rfl (by decide) rfl (fun ls hl => ?_)
              refine lv_goto (tgt := 28) hx hb dX1_join_130 (by decide) ?_
              exact ih _ _ _ _ _ _ _ hf _ _ _ hW (lv_sub hl [3, 4, 5, 6, 1, 0] rfl)
      · replace hf := (if_neg c3).symm.trans hf
        refine lv_aload_n hx hb dX1_join_48 rfl (lv_at hl 1 rfl) ?_
        refine gs_get hC hW in_X1 0 1 rfl rfl (by decide) fl_X1_15 rfl dX1_join_49 ?_
        refine lv_iload hx hb dX1_join_52 (lv_at hl 0 rfl) ?_
        refine lv_aload_n hx hb dX1_join_54 rfl (lv_at hl 2 rfl) ?_
        refine gs_get hC hW in_X5 4 0 rfl rfl (by decide) fl_X1_22 rfl dX1_join_55 ?_
        refine lv_iload hx hb dX1_join_58 (lv_at hl 6 rfl) ?_
        obtain ⟨v13, h13, hf⟩ := g_bnd hf
        refine gs_zald hC hW 5 h13 rfl dX1_join_60 ?_
        obtain ⟨s14, h14, hf⟩ := g_bnd hf
        refine gs_zast (ws' := w_X1_join cI cZ cJ a_t a_t_comeTo a_t_any a_t_numbers a_u a_u_any a_u_numbers t_comeTo s14 t_numbers u_any u_numbers) hC hW 2 h14 rfl rfl dX1_join_61 (fun H locs hW => ?_)
        refine lv_aload_n hx hb dX1_join_62 rfl (lv_at hl 1 rfl) ?_
        refine gs_get hC hW in_X1 0 2 rfl rfl (by decide) fl_X1_18 rfl dX1_join_63 ?_
        refine lv_iload hx hb dX1_join_66 (lv_at hl 0 rfl) ?_
        refine lv_aload_n hx hb dX1_join_68 rfl (lv_at hl 2 rfl) ?_
        refine gs_get hC hW in_X5 4 1 rfl rfl (by decide) fl_X1_25 rfl dX1_join_69 ?_
        refine lv_iload hx hb dX1_join_72 (lv_at hl 6 rfl) ?_
        obtain ⟨v15, h15, hf⟩ := g_bnd hf
        refine gs_iald hC hW 6 h15 rfl dX1_join_74 ?_
        obtain ⟨s16, h16, hf⟩ := g_bnd hf
        refine gs_iast (ws' := w_X1_join cI cZ cJ a_t a_t_comeTo a_t_any a_t_numbers a_u a_u_any a_u_numbers t_comeTo s14 s16 u_any u_numbers) hC hW 3 h16 rfl rfl dX1_join_75 (fun H locs hW => ?_)
        refine lv_goto (tgt := 127) hx hb dX1_join_76 (by decide) ?_
        refine lv_iinc (v := x5 + 1) (lv' := [(5, .int (x5 + 1)), (6, .int ((x1 * 6) + x5)), (0, .ref a_t), (2, .ref a_u), (1, .int x1), (3, .int x3), (4, .int x4)]) hx hb dX1_join_127 hl (k := 6) rfl rfl (by decide) rfl (fun ls hl => ?_)
        refine lv_goto (tgt := 28) hx hb dX1_join_130 (by decide) ?_
        exact ih _ _ _ _ _ _ _ hf _ _ _ hW (lv_sub hl [2, 3, 4, 5, 6, 0] rfl)
def f_X1_join (N : Nat) (x1 : Int32) (t_comeTo : Nat → Int32) (t_any : Nat → Int32) (t_numbers : Nat → Int32) (u_any : Nat → Int32) (u_numbers : Nat → Int32) : Option (Int32 × (Nat → Int32) × (Nat → Int32) × (Nat → Int32)) := (g_rd 204 t_comeTo x1).bind (fun v17 => if v17 = 0 then (g_wz 204 t_comeTo x1 1).bind (fun s20 => f_X1_join_28 N x1 u_any u_numbers N 1 1 0 s20 t_any t_numbers) else (g_wz 204 t_comeTo x1 1).bind (fun s19 => f_X1_join_28 N x1 u_any u_numbers N 0 0 0 s19 t_any t_numbers))
set_option maxHeartbeats 4000000 in
set_option maxRecDepth 100000 in
theorem k_X1_join (l : Launch) (tA : Nat) (dC : Nat → ClassId) (dI : Nat → Nat → Nat) (cI cZ cJ : ClassId) (a_t : Nat) (a_t_comeTo : Nat) (a_t_any : Nat) (a_t_numbers : Nat) (a_u : Nat) (a_u_any : Nat) (a_u_numbers : Nat) (N : Nat) (x1 : Int32) (t_comeTo : Nat → Int32) (t_any : Nat → Int32) (t_numbers : Nat → Int32) (u_any : Nat → Int32) (u_numbers : Nat → Int32) (out : Int32 × (Nat → Int32) × (Nat → Int32) × (Nat → Int32)) (hf : f_X1_join N x1 t_comeTo t_any t_numbers u_any u_numbers = some out) : g_Mi l yX1_join cX1_join 7 (some .boolean) r_X1_join tA dC dI cI cZ cJ [.ref a_t, .int x1, .ref a_u] (w_X1_join cI cZ cJ a_t a_t_comeTo a_t_any a_t_numbers a_u a_u_any a_u_numbers t_comeTo t_any t_numbers u_any u_numbers) (w_X1_join cI cZ cJ a_t a_t_comeTo a_t_any a_t_numbers a_u a_u_any a_u_numbers out.2.1 out.2.2.1 out.2.2.2 u_any u_numbers) out.1 := by
  unfold f_X1_join at hf
  refine ge_i (by decide) (Nat.le_of_ble_eq_true rfl) (fun p e s m below meth c A H locs ls hC hW hl => ?_)
  have hC : g_C p s m meth c _ cX1_join 7 (some .boolean) RX1 := hC
  have hx := hC.1
  have hb := hC.2.1
  have hown := hC.2.2.2.2.1
  have hts := hC.2.2.2.2.2.1
  have hl : lv_has ls 7 [(0, .ref a_t), (1, .int x1), (2, .ref a_u)] := hl
  refine lv_aload_n hx hb dX1_join_0 rfl (lv_at hl 0 rfl) ?_
  refine gs_get hC hW in_X1 0 0 rfl rfl (by decide) fl_X1_9 rfl dX1_join_1 ?_
  refine lv_iload_n hx hb dX1_join_4 rfl (lv_at hl 1 rfl) ?_
  obtain ⟨v17, h17, hf⟩ := g_bnd hf
  refine gs_zald hC hW 1 h17 rfl dX1_join_5 ?_
  refine lv_if_ne (tgt := 13) hx hb dX1_join_6 (by decide) (fun c18 => ?_) (fun c18 => ?_)
  · replace hf := (if_neg c18).symm.trans hf
    refine lv_iconst (v := 0) hx hb dX1_join_13 (by decide) ?_
    refine lv_istore_n (lv' := [(3, .int 0), (0, .ref a_t), (1, .int x1), (2, .ref a_u)]) hx hb dX1_join_14 rfl hl (by decide) rfl (fun ls hl => ?_)
    refine lv_iload_n hx hb dX1_join_15 rfl (lv_at hl 0 rfl) ?_
    refine lv_istore (lv' := [(4, .int 0), (3, .int 0), (0, .ref a_t), (1, .int x1), (2, .ref a_u)]) hx hb dX1_join_16 hl (by decide) rfl (fun ls hl => ?_)
    refine lv_aload_n hx hb dX1_join_18 rfl (lv_at hl 2 rfl) ?_
    refine gs_get hC hW in_X1 0 0 rfl rfl (by decide) fl_X1_9 rfl dX1_join_19 ?_
    refine lv_iload_n hx hb dX1_join_22 rfl (lv_at hl 3 rfl) ?_
    refine lv_iconst (v := 1) hx hb dX1_join_23 (by decide) ?_
    obtain ⟨s19, h19, hf⟩ := g_bnd hf
    refine gs_zast (ws' := w_X1_join cI cZ cJ a_t a_t_comeTo a_t_any a_t_numbers a_u a_u_any a_u_numbers s19 t_any t_numbers u_any u_numbers) hC hW 1 h19 rfl rfl dX1_join_24 (fun H locs hW => ?_)
    refine lv_iconst (v := 0) hx hb dX1_join_25 (by decide) ?_
    refine lv_istore (lv' := [(5, .int 0), (4, .int 0), (3, .int 0), (0, .ref a_t), (1, .int x1), (2, .ref a_u)]) hx hb dX1_join_26 hl (by decide) rfl (fun ls hl => ?_)
    exact b_X1_join_28 hC N _ _ _ _ _ _ _ hf _ _ _ hW (lv_sub hl [3, 5, 4, 2, 1, 0] rfl)
  · replace hf := (if_pos c18).symm.trans hf
    refine lv_iconst (v := 1) hx hb dX1_join_9 (by decide) ?_
    refine lv_goto (tgt := 14) hx hb dX1_join_10 (by decide) ?_
    refine lv_istore_n (lv' := [(3, .int 1), (0, .ref a_t), (1, .int x1), (2, .ref a_u)]) hx hb dX1_join_14 rfl hl (by decide) rfl (fun ls hl => ?_)
    refine lv_iload_n hx hb dX1_join_15 rfl (lv_at hl 0 rfl) ?_
    refine lv_istore (lv' := [(4, .int 1), (3, .int 1), (0, .ref a_t), (1, .int x1), (2, .ref a_u)]) hx hb dX1_join_16 hl (by decide) rfl (fun ls hl => ?_)
    refine lv_aload_n hx hb dX1_join_18 rfl (lv_at hl 2 rfl) ?_
    refine gs_get hC hW in_X1 0 0 rfl rfl (by decide) fl_X1_9 rfl dX1_join_19 ?_
    refine lv_iload_n hx hb dX1_join_22 rfl (lv_at hl 3 rfl) ?_
    refine lv_iconst (v := 1) hx hb dX1_join_23 (by decide) ?_
    obtain ⟨s20, h20, hf⟩ := g_bnd hf
    refine gs_zast (ws' := w_X1_join cI cZ cJ a_t a_t_comeTo a_t_any a_t_numbers a_u a_u_any a_u_numbers s20 t_any t_numbers u_any u_numbers) hC hW 1 h20 rfl rfl dX1_join_24 (fun H locs hW => ?_)
    refine lv_iconst (v := 0) hx hb dX1_join_25 (by decide) ?_
    refine lv_istore (lv' := [(5, .int 0), (4, .int 1), (3, .int 1), (0, .ref a_t), (1, .int x1), (2, .ref a_u)]) hx hb dX1_join_26 hl (by decide) rfl (fun ls hl => ?_)
    exact b_X1_join_28 hC N _ _ _ _ _ _ _ hf _ _ _ hW (lv_sub hl [3, 5, 4, 2, 1, 0] rfl)

abbrev w_X1_countReached (cI cZ cJ : ClassId) (a_t : Nat) (a_t_comeTo : Nat) (a_t_any : Nat) (a_t_numbers : Nat) (t_comeTo : Nat → Int32) : va_W := [(a_t, .inr (1, [.ref a_t_comeTo, .ref a_t_any, .ref a_t_numbers])), (a_t_comeTo, .inl (cZ, 204, .inl t_comeTo))]
abbrev r_X1_countReached : Room := { frames := 1, cells := 0, slots := 0, locals := 21 }
def f_X1_countReached_4 (N : Nat) (x1 : Int32) (t_comeTo : Nat → Int32) : Nat → Int32 → Int32 → Option (Int32)
  | 0, _, _ => none
  | n + 1, x2, x3 => if x1 ≤ x3 then some x2 else (f_X1_isReached x3 t_comeTo).bind (fun o2 => if o2 = 0 then f_X1_countReached_4 N x1 t_comeTo n x2 (x3 + 1) else f_X1_countReached_4 N x1 t_comeTo n (x2 + 1) (x3 + 1))
set_option maxHeartbeats 4000000 in
set_option maxRecDepth 100000 in
theorem b_X1_countReached_4 {p : Program} {l : Launch} {e : Env} {s : State} {m : MethodId} {args : Array Value} {below : List Frame} {meth : Method} {c : Code} {tA : Nat} {dC : Nat → ClassId} {dI : Nat → Nat → Nat} {cI cZ cJ : ClassId} {A : Nat → Prop} {a_t : Nat} {a_t_comeTo : Nat} {a_t_any : Nat} {a_t_numbers : Nat} {x1 : Int32} {t_comeTo : Nat → Int32} {N : Nat} (hC : g_C p s m meth c args cX1_countReached 4 (some .int) RX1) :
    ∀ (n : Nat) (x2 : Int32) (x3 : Int32) (out : Int32), f_X1_countReached_4 N x1 t_comeTo n x2 x3 = some out → ∀ (H : Heap) (locs : List Loc) (ls : Array Slot), g_W tA dC dI cI cZ cJ A s H locs (w_X1_countReached cI cZ cJ a_t a_t_comeTo a_t_any a_t_numbers t_comeTo) → lv_has ls 4 [(0, .ref a_t), (1, .int x1), (2, .int x2), (3, .int x3)] → W p l e r_X1_countReached s m args below meth c H locs 0 0 (MQ below (g_Qi dC dI cI cZ cJ A (w_X1_countReached cI cZ cJ a_t a_t_comeTo a_t_any a_t_numbers t_comeTo) out) args s 0 0 A) (F0 m 4 ls []) := by
  have hx := hC.1
  have hb := hC.2.1
  have hown := hC.2.2.2.2.1
  have hts := hC.2.2.2.2.2.1
  intro n
  induction n with
  | zero =>
    intro x2 x3 out hf
    exact g_no hf
  | succ n ih =>
    intro x2 x3 out hf H locs ls hW hl
    refine lv_iload_n hx hb dX1_countReached_4 rfl (lv_at hl 3 rfl) ?_
    refine lv_iload_n hx hb dX1_countReached_5 rfl (lv_at hl 1 rfl) ?_
    refine lv_icmp_ge (tgt := 26) hx hb dX1_countReached_6 (by decide) (fun c1 => ?_) (fun c1 => ?_)
    · replace hf := (if_pos c1).symm.trans hf
      refine lv_iload_n hx hb dX1_countReached_26 rfl (lv_at hl 2 rfl) ?_
      obtain rfl := Option.some.inj hf
      exact gs_ri hC hW rfl dX1_countReached_27
    · replace hf := (if_neg c1).symm.trans hf
      refine lv_aload_n hx hb dX1_countReached_9 rfl (lv_at hl 0 rfl) ?_
      refine lv_iload_n hx hb dX1_countReached_10 rfl (lv_at hl 3 rfl) ?_
      obtain ⟨o2, h2, hf⟩ := g_bnd hf
      refine gs_callVi (ws' := w_X1_countReached cI cZ cJ a_t a_t_comeTo a_t_any a_t_numbers t_comeTo) hC hW (k_X1_isReached l tA dC dI cI cZ cJ a_t a_t_comeTo a_t_any a_t_numbers x3 t_comeTo _ h2) yk_X1_isReached lk_X1_26 iv_X1_isReached ⟨rfl, rfl⟩ ⟨Nat.le_of_ble_eq_true rfl, Nat.le_of_ble_eq_true rfl⟩ hl.1 0 rfl rfl [0, 1] [] [0, 1] rfl rfl rfl rfl (by decide) rfl rfl rfl rfl (Nat.le_of_ble_eq_true rfl) dX1_countReached_11 ⟨Nat.zero_le _, Nat.zero_le _⟩ (fun H locs hW => ?_)
      refine lv_if_eq (tgt := 20) hx hb dX1_countReached_14 (by decide) (fun c3 => ?_) (fun c3 => ?_)
      · replace hf := (if_pos c3).symm.trans hf
        refine lv_iinc (v := x3 + 1) (lv' := [(3, .int (x3 + 1)), (0, .ref a_t), (1, .int x1), (2, .int x2)]) hx hb dX1_countReached_20 hl (k := 3) rfl rfl (by decide) rfl (fun ls hl => ?_)
        refine lv_goto (tgt := 4) hx hb dX1_countReached_23 (by decide) ?_
        exact ih _ _ _ hf _ _ _ hW (lv_sub hl [1, 2, 3, 0] rfl)
      · replace hf := (if_neg c3).symm.trans hf
        refine lv_iinc (v := x2 + 1) (lv' := [(2, .int (x2 + 1)), (0, .ref a_t), (1, .int x1), (3, .int x3)]) hx hb dX1_countReached_17 hl (k := 2) rfl rfl (by decide) rfl (fun ls hl => ?_)
        refine lv_iinc (v := x3 + 1) (lv' := [(3, .int (x3 + 1)), (2, .int (x2 + 1)), (0, .ref a_t), (1, .int x1)]) hx hb dX1_countReached_20 hl (k := 3) rfl rfl (by decide) rfl (fun ls hl => ?_)
        refine lv_goto (tgt := 4) hx hb dX1_countReached_23 (by decide) ?_
        exact ih _ _ _ hf _ _ _ hW (lv_sub hl [2, 3, 1, 0] rfl)
def f_X1_countReached (N : Nat) (x1 : Int32) (t_comeTo : Nat → Int32) : Option (Int32) := f_X1_countReached_4 N x1 t_comeTo N 0 0
set_option maxHeartbeats 4000000 in
set_option maxRecDepth 100000 in
theorem k_X1_countReached (l : Launch) (tA : Nat) (dC : Nat → ClassId) (dI : Nat → Nat → Nat) (cI cZ cJ : ClassId) (a_t : Nat) (a_t_comeTo : Nat) (a_t_any : Nat) (a_t_numbers : Nat) (N : Nat) (x1 : Int32) (t_comeTo : Nat → Int32) (out : Int32) (hf : f_X1_countReached N x1 t_comeTo = some out) : g_Mi l yX1_countReached cX1_countReached 4 (some .int) r_X1_countReached tA dC dI cI cZ cJ [.ref a_t, .int x1] (w_X1_countReached cI cZ cJ a_t a_t_comeTo a_t_any a_t_numbers t_comeTo) (w_X1_countReached cI cZ cJ a_t a_t_comeTo a_t_any a_t_numbers t_comeTo) out := by
  unfold f_X1_countReached at hf
  refine ge_i (by decide) (Nat.le_of_ble_eq_true rfl) (fun p e s m below meth c A H locs ls hC hW hl => ?_)
  have hC : g_C p s m meth c _ cX1_countReached 4 (some .int) RX1 := hC
  have hx := hC.1
  have hb := hC.2.1
  have hown := hC.2.2.2.2.1
  have hts := hC.2.2.2.2.2.1
  have hl : lv_has ls 4 [(0, .ref a_t), (1, .int x1)] := hl
  refine lv_iconst (v := 0) hx hb dX1_countReached_0 (by decide) ?_
  refine lv_istore_n (lv' := [(2, .int 0), (0, .ref a_t), (1, .int x1)]) hx hb dX1_countReached_1 rfl hl (by decide) rfl (fun ls hl => ?_)
  refine lv_iconst (v := 0) hx hb dX1_countReached_2 (by decide) ?_
  refine lv_istore_n (lv' := [(3, .int 0), (2, .int 0), (0, .ref a_t), (1, .int x1)]) hx hb dX1_countReached_3 rfl hl (by decide) rfl (fun ls hl => ?_)
  exact b_X1_countReached_4 hC N _ _ _ hf _ _ _ hW (lv_sub hl [2, 3, 1, 0] rfl)

abbrev w_X5_putNumber (cI cZ cJ : ClassId) (a_t : Nat) (a_t_any : Nat) (a_t_numbers : Nat) (t_any : Nat → Int32) (t_numbers : Nat → Int32) : va_W := [(a_t, .inr (5, [.ref a_t_any, .ref a_t_numbers])), (a_t_any, .inl (cZ, 6, .inl t_any)), (a_t_numbers, .inl (cI, 6, .inl t_numbers))]
abbrev r_X5_putNumber : Room := { frames := 0, cells := 0, slots := 0, locals := 0 }
def f_X5_putNumber (x1 : Int32) (x2 : Int32) (t_any : Nat → Int32) (t_numbers : Nat → Int32) : Option ((Nat → Int32) × (Nat → Int32)) := (g_wz 6 t_any x1 0).bind (fun s1 => (g_wr 6 t_numbers x1 x2).bind (fun s2 => some (s1, s2)))
set_option maxHeartbeats 4000000 in
set_option maxRecDepth 100000 in
theorem k_X5_putNumber (l : Launch) (tA : Nat) (dC : Nat → ClassId) (dI : Nat → Nat → Nat) (cI cZ cJ : ClassId) (a_t : Nat) (a_t_any : Nat) (a_t_numbers : Nat) (x1 : Int32) (x2 : Int32) (t_any : Nat → Int32) (t_numbers : Nat → Int32) (out : (Nat → Int32) × (Nat → Int32)) (hf : f_X5_putNumber x1 x2 t_any t_numbers = some out) : g_Mv l yX5_putNumber cX5_putNumber 3 (none : Option Jvm.ClassFile.FieldType) r_X5_putNumber tA dC dI cI cZ cJ [.ref a_t, .int x1, .int x2] (w_X5_putNumber cI cZ cJ a_t a_t_any a_t_numbers t_any t_numbers) (w_X5_putNumber cI cZ cJ a_t a_t_any a_t_numbers out.1 out.2) := by
  unfold f_X5_putNumber at hf
  refine ge_v (by decide) (Nat.le_of_ble_eq_true rfl) (fun p e s m below meth c A H locs ls hC hW hl => ?_)
  have hC : g_C p s m meth c _ cX5_putNumber 3 (none : Option Jvm.ClassFile.FieldType) RX5 := hC
  have hx := hC.1
  have hb := hC.2.1
  have hown := hC.2.2.2.2.1
  have hts := hC.2.2.2.2.2.1
  have hl : lv_has ls 3 [(0, .ref a_t), (1, .int x1), (2, .int x2)] := hl
  refine lv_aload_n hx hb dX5_putNumber_0 rfl (lv_at hl 0 rfl) ?_
  refine gs_get hC hW in_X5 0 0 rfl rfl (by decide) fl_X5_9 rfl dX5_putNumber_1 ?_
  refine lv_iload_n hx hb dX5_putNumber_4 rfl (lv_at hl 1 rfl) ?_
  refine lv_iconst (v := 0) hx hb dX5_putNumber_5 (by decide) ?_
  obtain ⟨s1, h1, hf⟩ := g_bnd hf
  refine gs_zast (ws' := w_X5_putNumber cI cZ cJ a_t a_t_any a_t_numbers s1 t_numbers) hC hW 1 h1 rfl rfl dX5_putNumber_6 (fun H locs hW => ?_)
  refine lv_aload_n hx hb dX5_putNumber_7 rfl (lv_at hl 0 rfl) ?_
  refine gs_get hC hW in_X5 0 1 rfl rfl (by decide) fl_X5_15 rfl dX5_putNumber_8 ?_
  refine lv_iload_n hx hb dX5_putNumber_11 rfl (lv_at hl 1 rfl) ?_
  refine lv_iload_n hx hb dX5_putNumber_12 rfl (lv_at hl 2 rfl) ?_
  obtain ⟨s2, h2, hf⟩ := g_bnd hf
  refine gs_iast (ws' := w_X5_putNumber cI cZ cJ a_t a_t_any a_t_numbers s1 s2) hC hW 2 h2 rfl rfl dX5_putNumber_13 (fun H locs hW => ?_)
  obtain rfl := Option.some.inj hf
  exact gs_rv hC hW rfl dX5_putNumber_14

abbrev w_X5_putAny (cI cZ cJ : ClassId) (a_t : Nat) (a_t_any : Nat) (a_t_numbers : Nat) (t_any : Nat → Int32) (t_numbers : Nat → Int32) : va_W := [(a_t, .inr (5, [.ref a_t_any, .ref a_t_numbers])), (a_t_any, .inl (cZ, 6, .inl t_any)), (a_t_numbers, .inl (cI, 6, .inl t_numbers))]
abbrev r_X5_putAny : Room := { frames := 0, cells := 0, slots := 0, locals := 0 }
def f_X5_putAny (x1 : Int32) (t_any : Nat → Int32) (t_numbers : Nat → Int32) : Option ((Nat → Int32) × (Nat → Int32)) := (g_wz 6 t_any x1 1).bind (fun s1 => (g_wr 6 t_numbers x1 0).bind (fun s2 => some (s1, s2)))
set_option maxHeartbeats 4000000 in
set_option maxRecDepth 100000 in
theorem k_X5_putAny (l : Launch) (tA : Nat) (dC : Nat → ClassId) (dI : Nat → Nat → Nat) (cI cZ cJ : ClassId) (a_t : Nat) (a_t_any : Nat) (a_t_numbers : Nat) (x1 : Int32) (t_any : Nat → Int32) (t_numbers : Nat → Int32) (out : (Nat → Int32) × (Nat → Int32)) (hf : f_X5_putAny x1 t_any t_numbers = some out) : g_Mv l yX5_putAny cX5_putAny 2 (none : Option Jvm.ClassFile.FieldType) r_X5_putAny tA dC dI cI cZ cJ [.ref a_t, .int x1] (w_X5_putAny cI cZ cJ a_t a_t_any a_t_numbers t_any t_numbers) (w_X5_putAny cI cZ cJ a_t a_t_any a_t_numbers out.1 out.2) := by
  unfold f_X5_putAny at hf
  refine ge_v (by decide) (Nat.le_of_ble_eq_true rfl) (fun p e s m below meth c A H locs ls hC hW hl => ?_)
  have hC : g_C p s m meth c _ cX5_putAny 2 (none : Option Jvm.ClassFile.FieldType) RX5 := hC
  have hx := hC.1
  have hb := hC.2.1
  have hown := hC.2.2.2.2.1
  have hts := hC.2.2.2.2.2.1
  have hl : lv_has ls 2 [(0, .ref a_t), (1, .int x1)] := hl
  refine lv_aload_n hx hb dX5_putAny_0 rfl (lv_at hl 0 rfl) ?_
  refine gs_get hC hW in_X5 0 0 rfl rfl (by decide) fl_X5_9 rfl dX5_putAny_1 ?_
  refine lv_iload_n hx hb dX5_putAny_4 rfl (lv_at hl 1 rfl) ?_
  refine lv_iconst (v := 1) hx hb dX5_putAny_5 (by decide) ?_
  obtain ⟨s1, h1, hf⟩ := g_bnd hf
  refine gs_zast (ws' := w_X5_putAny cI cZ cJ a_t a_t_any a_t_numbers s1 t_numbers) hC hW 1 h1 rfl rfl dX5_putAny_6 (fun H locs hW => ?_)
  refine lv_aload_n hx hb dX5_putAny_7 rfl (lv_at hl 0 rfl) ?_
  refine gs_get hC hW in_X5 0 1 rfl rfl (by decide) fl_X5_15 rfl dX5_putAny_8 ?_
  refine lv_iload_n hx hb dX5_putAny_11 rfl (lv_at hl 1 rfl) ?_
  refine lv_iconst (v := 0) hx hb dX5_putAny_12 (by decide) ?_
  obtain ⟨s2, h2, hf⟩ := g_bnd hf
  refine gs_iast (ws' := w_X5_putAny cI cZ cJ a_t a_t_any a_t_numbers s1 s2) hC hW 2 h2 rfl rfl dX5_putAny_13 (fun H locs hW => ?_)
  obtain rfl := Option.some.inj hf
  exact gs_rv hC hW rfl dX5_putAny_14

abbrev w_X6_begin (cI cZ cJ : ClassId) (a_t : Nat) (a_t_callCounts : Nat) (a_t_latestValues : Nat) (a_t_differing : Nat) (a_t_outputValues : Nat) (t_doneCount : Int32) (t_outputCount : Int32) (t_callCounts : Nat → Int32) (t_latestValues : Nat → Int32) (t_differing : Nat → Int32) : va_W := [(a_t, .inr (6, [.int t_doneCount, .int t_outputCount, .ref a_t_outputValues, .ref a_t_callCounts, .ref a_t_latestValues, .ref a_t_differing])), (a_t_callCounts, .inl (cI, 12, .inl t_callCounts)), (a_t_latestValues, .inl (cI, 36, .inl t_latestValues)), (a_t_differing, .inl (cZ, 36, .inl t_differing))]
abbrev r_X6_begin : Room := { frames := 0, cells := 0, slots := 0, locals := 0 }
def f_X6_begin_33 (N : Nat) : Nat → Int32 → Int32 → Int32 → (Nat → Int32) → (Nat → Int32) → (Nat → Int32) → Option (Int32 × Int32 × (Nat → Int32) × (Nat → Int32) × (Nat → Int32))
  | 0, _, _, _, _, _, _ => none
  | n + 1, x1, t_doneCount, t_outputCount, t_callCounts, t_latestValues, t_differing => if 36 ≤ x1 then some (t_doneCount, t_outputCount, t_callCounts, t_latestValues, t_differing) else (g_wr 36 t_latestValues x1 0).bind (fun s2 => (g_wz 36 t_differing x1 0).bind (fun s3 => f_X6_begin_33 N n (x1 + 1) t_doneCount t_outputCount t_callCounts s2 s3))
set_option maxHeartbeats 4000000 in
set_option maxRecDepth 100000 in
theorem b_X6_begin_33 {p : Program} {l : Launch} {e : Env} {s : State} {m : MethodId} {args : Array Value} {below : List Frame} {meth : Method} {c : Code} {tA : Nat} {dC : Nat → ClassId} {dI : Nat → Nat → Nat} {cI cZ cJ : ClassId} {A : Nat → Prop} {a_t : Nat} {a_t_callCounts : Nat} {a_t_latestValues : Nat} {a_t_differing : Nat} {a_t_outputValues : Nat} {N : Nat} (hC : g_C p s m meth c args cX6_begin 2 (none : Option Jvm.ClassFile.FieldType) RX6) :
    ∀ (n : Nat) (x1 : Int32) (t_doneCount : Int32) (t_outputCount : Int32) (t_callCounts : Nat → Int32) (t_latestValues : Nat → Int32) (t_differing : Nat → Int32) (out : Int32 × Int32 × (Nat → Int32) × (Nat → Int32) × (Nat → Int32)), f_X6_begin_33 N n x1 t_doneCount t_outputCount t_callCounts t_latestValues t_differing = some out → ∀ (H : Heap) (locs : List Loc) (ls : Array Slot), g_W tA dC dI cI cZ cJ A s H locs (w_X6_begin cI cZ cJ a_t a_t_callCounts a_t_latestValues a_t_differing a_t_outputValues t_doneCount t_outputCount t_callCounts t_latestValues t_differing) → lv_has ls 2 [(0, .ref a_t), (1, .int x1)] → W p l e r_X6_begin s m args below meth c H locs 0 0 (MQ below (g_Qv dC dI cI cZ cJ A (w_X6_begin cI cZ cJ a_t a_t_callCounts a_t_latestValues a_t_differing a_t_outputValues out.1 out.2.1 out.2.2.1 out.2.2.2.1 out.2.2.2.2)) args s 0 0 A) (F0 m 33 ls []) := by
  have hx := hC.1
  have hb := hC.2.1
  have hown := hC.2.2.2.2.1
  have hts := hC.2.2.2.2.2.1
  intro n
  induction n with
  | zero =>
    intro x1 t_doneCount t_outputCount t_callCounts t_latestValues t_differing out hf
    exact g_no hf
  | succ n ih =>
    intro x1 t_doneCount t_outputCount t_callCounts t_latestValues t_differing out hf H locs ls hW hl
    refine lv_iload_n hx hb dX6_begin_33 rfl (lv_at hl 1 rfl) ?_
    refine lv_aload_n hx hb dX6_begin_34 rfl (lv_at hl 0 rfl) ?_
    refine gs_get hC hW in_X6 0 4 rfl rfl (by decide) fl_X6_25 rfl dX6_begin_35 ?_
    refine gs_len (v := 36) hC hW 2 0 rfl rfl (by decide) dX6_begin_38 ?_
    refine lv_icmp_ge (tgt := 62) hx hb dX6_begin_39 (by decide) (fun c1 => ?_) (fun c1 => ?_)
    · replace hf := (if_pos c1).symm.trans hf
      obtain rfl := Option.some.inj hf
      exact gs_rv hC hW rfl dX6_begin_62
    · replace hf := (if_neg c1).symm.trans hf
      refine lv_aload_n hx hb dX6_begin_42 rfl (lv_at hl 0 rfl) ?_
      refine gs_get hC hW in_X6 0 4 rfl rfl (by decide) fl_X6_25 rfl dX6_begin_43 ?_
      refine lv_iload_n hx hb dX6_begin_46 rfl (lv_at hl 1 rfl) ?_
      refine lv_iconst (v := 0) hx hb dX6_begin_47 (by decide) ?_
      obtain ⟨s2, h2, hf⟩ := g_bnd hf
      refine gs_iast (ws' := w_X6_begin cI cZ cJ a_t a_t_callCounts a_t_latestValues a_t_differing a_t_outputValues t_doneCount t_outputCount t_callCounts s2 t_differing) hC hW 2 h2 rfl rfl dX6_begin_48 (fun H locs hW => ?_)
      refine lv_aload_n hx hb dX6_begin_49 rfl (lv_at hl 0 rfl) ?_
      refine gs_get hC hW in_X6 0 5 rfl rfl (by decide) fl_X6_28 rfl dX6_begin_50 ?_
      refine lv_iload_n hx hb dX6_begin_53 rfl (lv_at hl 1 rfl) ?_
      refine lv_iconst (v := 0) hx hb dX6_begin_54 (by decide) ?_
      obtain ⟨s3, h3, hf⟩ := g_bnd hf
      refine gs_zast (ws' := w_X6_begin cI cZ cJ a_t a_t_callCounts a_t_latestValues a_t_differing a_t_outputValues t_doneCount t_outputCount t_callCounts s2 s3) hC hW 3 h3 rfl rfl dX6_begin_55 (fun H locs hW => ?_)
      refine lv_iinc (v := x1 + 1) (lv' := [(1, .int (x1 + 1)), (0, .ref a_t)]) hx hb dX6_begin_56 hl (k := 1) rfl rfl (by decide) rfl (fun ls hl => ?_)
      refine lv_goto (tgt := 33) hx hb dX6_begin_59 (by decide) ?_
      exact ih _ _ _ _ _ _ _ hf _ _ _ hW (lv_sub hl [1, 0] rfl)
def f_X6_begin_12 (N : Nat) : Nat → Int32 → Int32 → Int32 → (Nat → Int32) → (Nat → Int32) → (Nat → Int32) → Option (Int32 × Int32 × (Nat → Int32) × (Nat → Int32) × (Nat → Int32))
  | 0, _, _, _, _, _, _ => none
  | n + 1, x1, t_doneCount, t_outputCount, t_callCounts, t_latestValues, t_differing => if 12 ≤ x1 then f_X6_begin_33 N N 0 t_doneCount t_outputCount t_callCounts t_latestValues t_differing else (g_wr 12 t_callCounts x1 0).bind (fun s5 => f_X6_begin_12 N n (x1 + 1) t_doneCount t_outputCount s5 t_latestValues t_differing)
set_option maxHeartbeats 4000000 in
set_option maxRecDepth 100000 in
theorem b_X6_begin_12 {p : Program} {l : Launch} {e : Env} {s : State} {m : MethodId} {args : Array Value} {below : List Frame} {meth : Method} {c : Code} {tA : Nat} {dC : Nat → ClassId} {dI : Nat → Nat → Nat} {cI cZ cJ : ClassId} {A : Nat → Prop} {a_t : Nat} {a_t_callCounts : Nat} {a_t_latestValues : Nat} {a_t_differing : Nat} {a_t_outputValues : Nat} {N : Nat} (hC : g_C p s m meth c args cX6_begin 2 (none : Option Jvm.ClassFile.FieldType) RX6) :
    ∀ (n : Nat) (x1 : Int32) (t_doneCount : Int32) (t_outputCount : Int32) (t_callCounts : Nat → Int32) (t_latestValues : Nat → Int32) (t_differing : Nat → Int32) (out : Int32 × Int32 × (Nat → Int32) × (Nat → Int32) × (Nat → Int32)), f_X6_begin_12 N n x1 t_doneCount t_outputCount t_callCounts t_latestValues t_differing = some out → ∀ (H : Heap) (locs : List Loc) (ls : Array Slot), g_W tA dC dI cI cZ cJ A s H locs (w_X6_begin cI cZ cJ a_t a_t_callCounts a_t_latestValues a_t_differing a_t_outputValues t_doneCount t_outputCount t_callCounts t_latestValues t_differing) → lv_has ls 2 [(0, .ref a_t), (1, .int x1)] → W p l e r_X6_begin s m args below meth c H locs 0 0 (MQ below (g_Qv dC dI cI cZ cJ A (w_X6_begin cI cZ cJ a_t a_t_callCounts a_t_latestValues a_t_differing a_t_outputValues out.1 out.2.1 out.2.2.1 out.2.2.2.1 out.2.2.2.2)) args s 0 0 A) (F0 m 12 ls []) := by
  have hx := hC.1
  have hb := hC.2.1
  have hown := hC.2.2.2.2.1
  have hts := hC.2.2.2.2.2.1
  intro n
  induction n with
  | zero =>
    intro x1 t_doneCount t_outputCount t_callCounts t_latestValues t_differing out hf
    exact g_no hf
  | succ n ih =>
    intro x1 t_doneCount t_outputCount t_callCounts t_latestValues t_differing out hf H locs ls hW hl
    refine lv_iload_n hx hb dX6_begin_12 rfl (lv_at hl 1 rfl) ?_
    refine lv_bipush (v := 12) hx hb dX6_begin_13 (by decide) ?_
    refine lv_icmp_ge (tgt := 31) hx hb dX6_begin_15 (by decide) (fun c4 => ?_) (fun c4 => ?_)
    · replace hf := (if_pos c4).symm.trans hf
      refine lv_iconst (v := 0) hx hb dX6_begin_31 (by decide) ?_
      refine lv_istore_n (lv' := [(1, .int 0), (0, .ref a_t)]) hx hb dX6_begin_32 rfl hl (by decide) rfl (fun ls hl => ?_)
      exact b_X6_begin_33 hC N _ _ _ _ _ _ _ hf _ _ _ hW (lv_sub hl [1, 0] rfl)
    · replace hf := (if_neg c4).symm.trans hf
      refine lv_aload_n hx hb dX6_begin_18 rfl (lv_at hl 0 rfl) ?_
      refine gs_get hC hW in_X6 0 3 rfl rfl (by decide) fl_X6_22 rfl dX6_begin_19 ?_
      refine lv_iload_n hx hb dX6_begin_22 rfl (lv_at hl 1 rfl) ?_
      refine lv_iconst (v := 0) hx hb dX6_begin_23 (by decide) ?_
      obtain ⟨s5, h5, hf⟩ := g_bnd hf
      refine gs_iast (ws' := w_X6_begin cI cZ cJ a_t a_t_callCounts a_t_latestValues a_t_differing a_t_outputValues t_doneCount t_outputCount s5 t_latestValues t_differing) hC hW 1 h5 rfl rfl dX6_begin_24 (fun H locs hW => ?_)
      refine lv_iinc (v := x1 + 1) (lv' := [(1, .int (x1 + 1)), (0, .ref a_t)]) hx hb dX6_begin_25 hl (k := 1) rfl rfl (by decide) rfl (fun ls hl => ?_)
      refine lv_goto (tgt := 12) hx hb dX6_begin_28 (by decide) ?_
      exact ih _ _ _ _ _ _ _ hf _ _ _ hW (lv_sub hl [1, 0] rfl)
def f_X6_begin (N : Nat) (t_doneCount : Int32) (t_outputCount : Int32) (t_callCounts : Nat → Int32) (t_latestValues : Nat → Int32) (t_differing : Nat → Int32) : Option (Int32 × Int32 × (Nat → Int32) × (Nat → Int32) × (Nat → Int32)) := f_X6_begin_12 N N 0 0 0 t_callCounts t_latestValues t_differing
set_option maxHeartbeats 4000000 in
set_option maxRecDepth 100000 in
theorem k_X6_begin (l : Launch) (tA : Nat) (dC : Nat → ClassId) (dI : Nat → Nat → Nat) (cI cZ cJ : ClassId) (a_t : Nat) (a_t_callCounts : Nat) (a_t_latestValues : Nat) (a_t_differing : Nat) (a_t_outputValues : Nat) (N : Nat) (t_doneCount : Int32) (t_outputCount : Int32) (t_callCounts : Nat → Int32) (t_latestValues : Nat → Int32) (t_differing : Nat → Int32) (out : Int32 × Int32 × (Nat → Int32) × (Nat → Int32) × (Nat → Int32)) (hf : f_X6_begin N t_doneCount t_outputCount t_callCounts t_latestValues t_differing = some out) : g_Mv l yX6_begin cX6_begin 2 (none : Option Jvm.ClassFile.FieldType) r_X6_begin tA dC dI cI cZ cJ [.ref a_t] (w_X6_begin cI cZ cJ a_t a_t_callCounts a_t_latestValues a_t_differing a_t_outputValues t_doneCount t_outputCount t_callCounts t_latestValues t_differing) (w_X6_begin cI cZ cJ a_t a_t_callCounts a_t_latestValues a_t_differing a_t_outputValues out.1 out.2.1 out.2.2.1 out.2.2.2.1 out.2.2.2.2) := by
  unfold f_X6_begin at hf
  refine ge_v (by decide) (Nat.le_of_ble_eq_true rfl) (fun p e s m below meth c A H locs ls hC hW hl => ?_)
  have hC : g_C p s m meth c _ cX6_begin 2 (none : Option Jvm.ClassFile.FieldType) RX6 := hC
  have hx := hC.1
  have hb := hC.2.1
  have hown := hC.2.2.2.2.1
  have hts := hC.2.2.2.2.2.1
  have hl : lv_has ls 2 [(0, .ref a_t)] := hl
  refine lv_aload_n hx hb dX6_begin_0 rfl (lv_at hl 0 rfl) ?_
  refine lv_iconst (v := 0) hx hb dX6_begin_1 (by decide) ?_
  refine gs_put (ws' := w_X6_begin cI cZ cJ a_t a_t_callCounts a_t_latestValues a_t_differing a_t_outputValues 0 t_outputCount t_callCounts t_latestValues t_differing) hC hW in_X6 tyX6_ok nmX6 0 0 rfl rfl (by decide) fl_X6_9 rfl rfl rfl (Nat.le_of_ble_eq_true rfl) rfl dX6_begin_2 (fun H locs hW => ?_)
  refine lv_aload_n hx hb dX6_begin_5 rfl (lv_at hl 0 rfl) ?_
  refine lv_iconst (v := 0) hx hb dX6_begin_6 (by decide) ?_
  refine gs_put (ws' := w_X6_begin cI cZ cJ a_t a_t_callCounts a_t_latestValues a_t_differing a_t_outputValues 0 0 t_callCounts t_latestValues t_differing) hC hW in_X6 tyX6_ok nmX6 0 1 rfl rfl (by decide) fl_X6_15 rfl rfl rfl (Nat.le_of_ble_eq_true rfl) rfl dX6_begin_7 (fun H locs hW => ?_)
  refine lv_iconst (v := 0) hx hb dX6_begin_10 (by decide) ?_
  refine lv_istore_n (lv' := [(1, .int 0), (0, .ref a_t)]) hx hb dX6_begin_11 rfl hl (by decide) rfl (fun ls hl => ?_)
  exact b_X6_begin_12 hC N _ _ _ _ _ _ _ hf _ _ _ hW (lv_sub hl [1, 0] rfl)

abbrev w_X6_addOutput (cI cZ cJ : ClassId) (a_t : Nat) (a_t_outputValues : Nat) (a_t_callCounts : Nat) (a_t_latestValues : Nat) (a_t_differing : Nat) (t_doneCount : Int32) (t_outputCount : Int32) (t_outputValues : Nat → Int32) : va_W := [(a_t, .inr (6, [.int t_doneCount, .int t_outputCount, .ref a_t_outputValues, .ref a_t_callCounts, .ref a_t_latestValues, .ref a_t_differing])), (a_t_outputValues, .inl (cI, 40, .inl t_outputValues))]
abbrev r_X6_addOutput : Room := { frames := 0, cells := 0, slots := 0, locals := 0 }
def f_X6_addOutput (x1 : Int32) (t_outputCount : Int32) (t_outputValues : Nat → Int32) : Option (Int32 × Int32 × (Nat → Int32)) := if t_outputCount < 40 then (g_wr 40 t_outputValues t_outputCount x1).bind (fun s2 => some (1, t_outputCount + 1, s2)) else some (0, t_outputCount, t_outputValues)
set_option maxHeartbeats 4000000 in
set_option maxRecDepth 100000 in
theorem k_X6_addOutput (l : Launch) (tA : Nat) (dC : Nat → ClassId) (dI : Nat → Nat → Nat) (cI cZ cJ : ClassId) (a_t : Nat) (a_t_outputValues : Nat) (a_t_callCounts : Nat) (a_t_latestValues : Nat) (a_t_differing : Nat) (x1 : Int32) (t_doneCount : Int32) (t_outputCount : Int32) (t_outputValues : Nat → Int32) (out : Int32 × Int32 × (Nat → Int32)) (hf : f_X6_addOutput x1 t_outputCount t_outputValues = some out) : g_Mi l yX6_addOutput cX6_addOutput 2 (some .boolean) r_X6_addOutput tA dC dI cI cZ cJ [.ref a_t, .int x1] (w_X6_addOutput cI cZ cJ a_t a_t_outputValues a_t_callCounts a_t_latestValues a_t_differing t_doneCount t_outputCount t_outputValues) (w_X6_addOutput cI cZ cJ a_t a_t_outputValues a_t_callCounts a_t_latestValues a_t_differing t_doneCount out.2.1 out.2.2) out.1 := by
  unfold f_X6_addOutput at hf
  refine ge_i (by decide) (Nat.le_of_ble_eq_true rfl) (fun p e s m below meth c A H locs ls hC hW hl => ?_)
  have hC : g_C p s m meth c _ cX6_addOutput 2 (some .boolean) RX6 := hC
  have hx := hC.1
  have hb := hC.2.1
  have hown := hC.2.2.2.2.1
  have hts := hC.2.2.2.2.2.1
  have hl : lv_has ls 2 [(0, .ref a_t), (1, .int x1)] := hl
  refine lv_aload_n hx hb dX6_addOutput_0 rfl (lv_at hl 0 rfl) ?_
  refine gs_get hC hW in_X6 0 1 rfl rfl (by decide) fl_X6_15 rfl dX6_addOutput_1 ?_
  refine lv_bipush (v := 40) hx hb dX6_addOutput_4 (by decide) ?_
  refine lv_icmp_lt (tgt := 11) hx hb dX6_addOutput_6 (by decide) (fun c1 => ?_) (fun c1 => ?_)
  · replace hf := (if_pos c1).symm.trans hf
    refine lv_aload_n hx hb dX6_addOutput_11 rfl (lv_at hl 0 rfl) ?_
    refine gs_get hC hW in_X6 0 2 rfl rfl (by decide) fl_X6_18 rfl dX6_addOutput_12 ?_
    refine lv_aload_n hx hb dX6_addOutput_15 rfl (lv_at hl 0 rfl) ?_
    refine gs_get hC hW in_X6 0 1 rfl rfl (by decide) fl_X6_15 rfl dX6_addOutput_16 ?_
    refine lv_iload_n hx hb dX6_addOutput_19 rfl (lv_at hl 1 rfl) ?_
    obtain ⟨s2, h2, hf⟩ := g_bnd hf
    refine gs_iast (ws' := w_X6_addOutput cI cZ cJ a_t a_t_outputValues a_t_callCounts a_t_latestValues a_t_differing t_doneCount t_outputCount s2) hC hW 1 h2 rfl rfl dX6_addOutput_20 (fun H locs hW => ?_)
    refine lv_aload_n hx hb dX6_addOutput_21 rfl (lv_at hl 0 rfl) ?_
    refine lv_dup hx hb dX6_addOutput_22 rfl ?_
    refine gs_get hC hW in_X6 0 1 rfl rfl (by decide) fl_X6_15 rfl dX6_addOutput_23 ?_
    refine lv_iconst (v := 1) hx hb dX6_addOutput_26 (by decide) ?_
    refine lv_iadd hx hb dX6_addOutput_27 ?_
    refine gs_put (ws' := w_X6_addOutput cI cZ cJ a_t a_t_outputValues a_t_callCounts a_t_latestValues a_t_differing t_doneCount (t_outputCount + 1) s2) hC hW in_X6 tyX6_ok nmX6 0 1 rfl rfl (by decide) fl_X6_15 rfl rfl rfl (Nat.le_of_ble_eq_true rfl) rfl dX6_addOutput_28 (fun H locs hW => ?_)
    refine lv_iconst (v := 1) hx hb dX6_addOutput_31 (by decide) ?_
    obtain rfl := Option.some.inj hf
    exact gs_rz hC hW rfl g_n1 dX6_addOutput_32
  · replace hf := (if_neg c1).symm.trans hf
    refine lv_iconst (v := 0) hx hb dX6_addOutput_9 (by decide) ?_
    obtain rfl := Option.some.inj hf
    exact gs_rz hC hW rfl g_n0 dX6_addOutput_10

abbrev w_X6_addCall (cI cZ cJ : ClassId) (a_t : Nat) (a_t_callCounts : Nat) (a_t_latestValues : Nat) (a_t_differing : Nat) (a_x2 : Nat) (a_t_outputValues : Nat) (t_doneCount : Int32) (t_outputCount : Int32) (t_callCounts : Nat → Int32) (t_latestValues : Nat → Int32) (t_differing : Nat → Int32) (x2_row : Nat → Int32) : va_W := [(a_t, .inr (6, [.int t_doneCount, .int t_outputCount, .ref a_t_outputValues, .ref a_t_callCounts, .ref a_t_latestValues, .ref a_t_differing])), (a_t_callCounts, .inl (cI, 12, .inl t_callCounts)), (a_t_latestValues, .inl (cI, 36, .inl t_latestValues)), (a_t_differing, .inl (cZ, 36, .inl t_differing)), (a_x2, .inl (cI, 66, .inl x2_row))]
abbrev r_X6_addCall : Room := { frames := 0, cells := 0, slots := 0, locals := 0 }
def f_X6_addCall_3 (N : Nat) (x1 : Int32) (x3 : Int32) (x2_row : Nat → Int32) : Nat → Int32 → (Nat → Int32) → (Nat → Int32) → (Nat → Int32) → Option ((Nat → Int32) × (Nat → Int32) × (Nat → Int32))
  | 0, _, _, _, _ => none
  | n + 1, x4, t_callCounts, t_latestValues, t_differing => if 3 ≤ x4 then (g_rd 12 t_callCounts x1).bind (fun v2 => (g_wr 12 t_callCounts x1 (v2 + 1)).bind (fun s3 => some (s3, t_latestValues, t_differing))) else (g_rd 66 x2_row (x3 + x4)).bind (fun v4 => (g_rd 12 t_callCounts x1).bind (fun v5 => if v5 ≤ 0 then (g_wr 36 t_latestValues ((x1 * 3) + x4) v4).bind (fun s7 => f_X6_addCall_3 N x1 x3 x2_row n (x4 + 1) t_callCounts s7 t_differing) else (g_rd 36 t_latestValues ((x1 * 3) + x4)).bind (fun v8 => if v8 = v4 then (g_wr 36 t_latestValues ((x1 * 3) + x4) v4).bind (fun s10 => f_X6_addCall_3 N x1 x3 x2_row n (x4 + 1) t_callCounts s10 t_differing) else (g_wz 36 t_differing ((x1 * 3) + x4) 1).bind (fun s11 => (g_wr 36 t_latestValues ((x1 * 3) + x4) v4).bind (fun s12 => f_X6_addCall_3 N x1 x3 x2_row n (x4 + 1) t_callCounts s12 s11)))))
set_option maxHeartbeats 4000000 in
set_option maxRecDepth 100000 in
theorem b_X6_addCall_3 {p : Program} {l : Launch} {e : Env} {s : State} {m : MethodId} {args : Array Value} {below : List Frame} {meth : Method} {c : Code} {tA : Nat} {dC : Nat → ClassId} {dI : Nat → Nat → Nat} {cI cZ cJ : ClassId} {A : Nat → Prop} {a_t : Nat} {a_t_callCounts : Nat} {a_t_latestValues : Nat} {a_t_differing : Nat} {a_x2 : Nat} {a_t_outputValues : Nat} {x1 : Int32} {x3 : Int32} {x2_row : Nat → Int32} {t_doneCount : Int32} {t_outputCount : Int32} {N : Nat} (hC : g_C p s m meth c args cX6_addCall 7 (none : Option Jvm.ClassFile.FieldType) RX6) :
    ∀ (n : Nat) (x4 : Int32) (t_callCounts : Nat → Int32) (t_latestValues : Nat → Int32) (t_differing : Nat → Int32) (out : (Nat → Int32) × (Nat → Int32) × (Nat → Int32)), f_X6_addCall_3 N x1 x3 x2_row n x4 t_callCounts t_latestValues t_differing = some out → ∀ (H : Heap) (locs : List Loc) (ls : Array Slot), g_W tA dC dI cI cZ cJ A s H locs (w_X6_addCall cI cZ cJ a_t a_t_callCounts a_t_latestValues a_t_differing a_x2 a_t_outputValues t_doneCount t_outputCount t_callCounts t_latestValues t_differing x2_row) → lv_has ls 7 [(0, .ref a_t), (2, .ref a_x2), (1, .int x1), (3, .int x3), (4, .int x4)] → W p l e r_X6_addCall s m args below meth c H locs 0 0 (MQ below (g_Qv dC dI cI cZ cJ A (w_X6_addCall cI cZ cJ a_t a_t_callCounts a_t_latestValues a_t_differing a_x2 a_t_outputValues t_doneCount t_outputCount out.1 out.2.1 out.2.2 x2_row)) args s 0 0 A) (F0 m 3 ls []) := by
  have hx := hC.1
  have hb := hC.2.1
  have hown := hC.2.2.2.2.1
  have hts := hC.2.2.2.2.2.1
  intro n
  induction n with
  | zero =>
    intro x4 t_callCounts t_latestValues t_differing out hf
    exact g_no hf
  | succ n ih =>
    intro x4 t_callCounts t_latestValues t_differing out hf H locs ls hW hl
    refine lv_iload hx hb dX6_addCall_3 (lv_at hl 4 rfl) ?_
    refine lv_iconst (v := 3) hx hb dX6_addCall_5 (by decide) ?_
    refine lv_icmp_ge (tgt := 69) hx hb dX6_addCall_6 (by decide) (fun c1 => ?_) (fun c1 => ?_)
    · replace hf := (if_pos c1).symm.trans hf
      refine lv_aload_n hx hb dX6_addCall_69 rfl (lv_at hl 0 rfl) ?_
      refine gs_get hC hW in_X6 0 3 rfl rfl (by decide) fl_X6_22 rfl dX6_addCall_70 ?_
      refine lv_iload_n hx hb dX6_addCall_73 rfl (lv_at hl 2 rfl) ?_
      refine lv_dup2_11 hx hb dX6_addCall_74 rfl rfl ?_
      obtain ⟨v2, h2, hf⟩ := g_bnd hf
      refine gs_iald hC hW 1 h2 rfl dX6_addCall_75 ?_
      refine lv_iconst (v := 1) hx hb dX6_addCall_76 (by decide) ?_
      refine lv_iadd hx hb dX6_addCall_77 ?_
      obtain ⟨s3, h3, hf⟩ := g_bnd hf
      refine gs_iast (ws' := w_X6_addCall cI cZ cJ a_t a_t_callCounts a_t_latestValues a_t_differing a_x2 a_t_outputValues t_doneCount t_outputCount s3 t_latestValues t_differing x2_row) hC hW 1 h3 rfl rfl dX6_addCall_78 (fun H locs hW => ?_)
      obtain rfl := Option.some.inj hf
      exact gs_rv hC hW rfl dX6_addCall_79
    · replace hf := (if_neg c1).symm.trans hf
      refine lv_iload_n hx hb dX6_addCall_9 rfl (lv_at hl 2 rfl) ?_
      refine lv_iconst (v := 3) hx hb dX6_addCall_10 (by decide) ?_
      refine lv_imul hx hb dX6_addCall_11 ?_
      refine lv_iload hx hb dX6_addCall_12 (lv_at hl 4 rfl) ?_
      refine lv_iadd hx hb dX6_addCall_14 ?_
      refine lv_istore (lv' := [(5, .int ((x1 * 3) + x4)), (0, .ref a_t), (2, .ref a_x2), (1, .int x1), (3, .int x3), (4, .int x4)]) hx hb dX6_addCall_15 hl (by decide) rfl (fun ls hl => ?_)
      refine lv_aload_n hx hb dX6_addCall_17 rfl (lv_at hl 2 rfl) ?_
      refine lv_iload_n hx hb dX6_addCall_18 rfl (lv_at hl 4 rfl) ?_
      refine lv_iload hx hb dX6_addCall_19 (lv_at hl 5 rfl) ?_
      refine lv_iadd hx hb dX6_addCall_21 ?_
      obtain ⟨v4, h4, hf⟩ := g_bnd hf
      refine gs_iald hC hW 4 h4 rfl dX6_addCall_22 ?_
      refine lv_istore (lv' := [(6, .int v4), (5, .int ((x1 * 3) + x4)), (0, .ref a_t), (2, .ref a_x2), (1, .int x1), (3, .int x3), (4, .int x4)]) hx hb dX6_addCall_23 hl (by decide) rfl (fun ls hl => ?_)
      refine lv_aload_n hx hb dX6_addCall_25 rfl (lv_at hl 2 rfl) ?_
      refine gs_get hC hW in_X6 0 3 rfl rfl (by decide) fl_X6_22 rfl dX6_addCall_26 ?_
      refine lv_iload_n hx hb dX6_addCall_29 rfl (lv_at hl 4 rfl) ?_
      obtain ⟨v5, h5, hf⟩ := g_bnd hf
      refine gs_iald hC hW 1 h5 rfl dX6_addCall_30 ?_
      refine lv_if_le (tgt := 54) hx hb dX6_addCall_31 (by decide) (fun c6 => ?_) (fun c6 => ?_)
      · replace hf := (if_pos c6).symm.trans hf
        refine lv_aload_n hx hb dX6_addCall_54 rfl (lv_at hl 2 rfl) ?_
        refine gs_get hC hW in_X6 0 4 rfl rfl (by decide) fl_X6_25 rfl dX6_addCall_55 ?_
        refine lv_iload hx hb dX6_addCall_58 (lv_at hl 1 rfl) ?_
        refine lv_iload hx hb dX6_addCall_60 (lv_at hl 0 rfl) ?_
        obtain ⟨s7, h7, hf⟩ := g_bnd hf
        refine gs_iast (ws' := w_X6_addCall cI cZ cJ a_t a_t_callCounts a_t_latestValues a_t_differing a_x2 a_t_outputValues t_doneCount t_outputCount t_callCounts s7 t_differing x2_row) hC hW 2 h7 rfl rfl dX6_addCall_62 (fun H locs hW => ?_)
        refine lv_iinc (v := x4 + 1) (lv' := [(4, .int (x4 + 1)), (6, .int v4), (5, .int ((x1 * 3) + x4)), (0, .ref a_t), (2, .ref a_x2), (1, .int x1), (3, .int x3)]) hx hb dX6_addCall_63 hl (k := 6) rfl rfl (by decide) rfl (fun ls hl => ?_)
        refine lv_goto (tgt := 3) hx hb dX6_addCall_66 (by decide) ?_
        exact ih _ _ _ _ _ hf _ _ _ hW (lv_sub hl [3, 4, 5, 6, 0] rfl)
      · replace hf := (if_neg c6).symm.trans hf
        refine lv_aload_n hx hb dX6_addCall_34 rfl (lv_at hl 2 rfl) ?_
        refine gs_get hC hW in_X6 0 4 rfl rfl (by decide) fl_X6_25 rfl dX6_addCall_35 ?_
        refine lv_iload hx hb dX6_addCall_38 (lv_at hl 1 rfl) ?_
        obtain ⟨v8, h8, hf⟩ := g_bnd hf
        refine gs_iald hC hW 2 h8 rfl dX6_addCall_40 ?_
        refine lv_iload hx hb dX6_addCall_41 (lv_at hl 0 rfl) ?_
        refine lv_icmp_eq (tgt := 54) hx hb dX6_addCall_43 (by decide) (fun c9 => ?_) (fun c9 => ?_)
        · replace hf := (if_pos c9).symm.trans hf
          refine lv_aload_n hx hb dX6_addCall_54 rfl (lv_at hl 2 rfl) ?_
          refine gs_get hC hW in_X6 0 4 rfl rfl (by decide) fl_X6_25 rfl dX6_addCall_55 ?_
          refine lv_iload hx hb dX6_addCall_58 (lv_at hl 1 rfl) ?_
          refine lv_iload hx hb dX6_addCall_60 (lv_at hl 0 rfl) ?_
          obtain ⟨s10, h10, hf⟩ := g_bnd hf
          refine gs_iast (ws' := w_X6_addCall cI cZ cJ a_t a_t_callCounts a_t_latestValues a_t_differing a_x2 a_t_outputValues t_doneCount t_outputCount t_callCounts s10 t_differing x2_row) hC hW 2 h10 rfl rfl dX6_addCall_62 (fun H locs hW => ?_)
          refine lv_iinc (v := x4 + 1) (lv' := [(4, .int (x4 + 1)), (6, .int v4), (5, .int ((x1 * 3) + x4)), (0, .ref a_t), (2, .ref a_x2), (1, .int x1), (3, .int x3)]) hx hb dX6_addCall_63 hl (k := 6) rfl rfl (by decide) rfl (fun ls hl => ?_)
          refine lv_goto (tgt := 3) hx hb dX6_addCall_66 (by decide) ?_
          exact ih _ _ _ _ _ hf _ _ _ hW (lv_sub hl [3, 4, 5, 6, 0] rfl)
        · replace hf := (if_neg c9).symm.trans hf
          refine lv_aload_n hx hb dX6_addCall_46 rfl (lv_at hl 2 rfl) ?_
          refine gs_get hC hW in_X6 0 5 rfl rfl (by decide) fl_X6_28 rfl dX6_addCall_47 ?_
          refine lv_iload hx hb dX6_addCall_50 (lv_at hl 1 rfl) ?_
          refine lv_iconst (v := 1) hx hb dX6_addCall_52 (by decide) ?_
          obtain ⟨s11, h11, hf⟩ := g_bnd hf
          refine gs_zast (ws' := w_X6_addCall cI cZ cJ a_t a_t_callCounts a_t_latestValues a_t_differing a_x2 a_t_outputValues t_doneCount t_outputCount t_callCounts t_latestValues s11 x2_row) hC hW 3 h11 rfl rfl dX6_addCall_53 (fun H locs hW => ?_)
          refine lv_aload_n hx hb dX6_addCall_54 rfl (lv_at hl 2 rfl) ?_
          refine gs_get hC hW in_X6 0 4 rfl rfl (by decide) fl_X6_25 rfl dX6_addCall_55 ?_
          refine lv_iload hx hb dX6_addCall_58 (lv_at hl 1 rfl) ?_
          refine lv_iload hx hb dX6_addCall_60 (lv_at hl 0 rfl) ?_
          obtain ⟨s12, h12, hf⟩ := g_bnd hf
          refine gs_iast (ws' := w_X6_addCall cI cZ cJ a_t a_t_callCounts a_t_latestValues a_t_differing a_x2 a_t_outputValues t_doneCount t_outputCount t_callCounts s12 s11 x2_row) hC hW 2 h12 rfl rfl dX6_addCall_62 (fun H locs hW => ?_)
          refine lv_iinc (v := x4 + 1) (lv' := [(4, .int (x4 + 1)), (6, .int v4), (5, .int ((x1 * 3) + x4)), (0, .ref a_t), (2, .ref a_x2), (1, .int x1), (3, .int x3)]) hx hb dX6_addCall_63 hl (k := 6) rfl rfl (by decide) rfl (fun ls hl => ?_)
          refine lv_goto (tgt := 3) hx hb dX6_addCall_66 (by decide) ?_
          exact ih _ _ _ _ _ hf _ _ _ hW (lv_sub hl [3, 4, 5, 6, 0] rfl)
def f_X6_addCall (N : Nat) (x1 : Int32) (x3 : Int32) (t_callCounts : Nat → Int32) (t_latestValues : Nat → Int32) (t_differing : Nat → Int32) (x2_row : Nat → Int32) : Option ((Nat → Int32) × (Nat → Int32) × (Nat → Int32)) := f_X6_addCall_3 N x1 x3 x2_row N 0 t_callCounts t_latestValues t_differing
set_option maxHeartbeats 4000000 in
set_option maxRecDepth 100000 in
theorem k_X6_addCall (l : Launch) (tA : Nat) (dC : Nat → ClassId) (dI : Nat → Nat → Nat) (cI cZ cJ : ClassId) (a_t : Nat) (a_t_callCounts : Nat) (a_t_latestValues : Nat) (a_t_differing : Nat) (a_x2 : Nat) (a_t_outputValues : Nat) (N : Nat) (x1 : Int32) (x3 : Int32) (t_doneCount : Int32) (t_outputCount : Int32) (t_callCounts : Nat → Int32) (t_latestValues : Nat → Int32) (t_differing : Nat → Int32) (x2_row : Nat → Int32) (out : (Nat → Int32) × (Nat → Int32) × (Nat → Int32)) (hf : f_X6_addCall N x1 x3 t_callCounts t_latestValues t_differing x2_row = some out) : g_Mv l yX6_addCall cX6_addCall 7 (none : Option Jvm.ClassFile.FieldType) r_X6_addCall tA dC dI cI cZ cJ [.ref a_t, .int x1, .ref a_x2, .int x3] (w_X6_addCall cI cZ cJ a_t a_t_callCounts a_t_latestValues a_t_differing a_x2 a_t_outputValues t_doneCount t_outputCount t_callCounts t_latestValues t_differing x2_row) (w_X6_addCall cI cZ cJ a_t a_t_callCounts a_t_latestValues a_t_differing a_x2 a_t_outputValues t_doneCount t_outputCount out.1 out.2.1 out.2.2 x2_row) := by
  unfold f_X6_addCall at hf
  refine ge_v (by decide) (Nat.le_of_ble_eq_true rfl) (fun p e s m below meth c A H locs ls hC hW hl => ?_)
  have hC : g_C p s m meth c _ cX6_addCall 7 (none : Option Jvm.ClassFile.FieldType) RX6 := hC
  have hx := hC.1
  have hb := hC.2.1
  have hown := hC.2.2.2.2.1
  have hts := hC.2.2.2.2.2.1
  have hl : lv_has ls 7 [(0, .ref a_t), (1, .int x1), (2, .ref a_x2), (3, .int x3)] := hl
  refine lv_iconst (v := 0) hx hb dX6_addCall_0 (by decide) ?_
  refine lv_istore (lv' := [(4, .int 0), (0, .ref a_t), (1, .int x1), (2, .ref a_x2), (3, .int x3)]) hx hb dX6_addCall_1 hl (by decide) rfl (fun ls hl => ?_)
  exact b_X6_addCall_3 hC N _ _ _ _ _ hf _ _ _ hW (lv_sub hl [1, 3, 2, 4, 0] rfl)

abbrev w_X7_isNumber (cI cZ cJ : ClassId) : va_W := []
abbrev r_X7_isNumber : Room := { frames := 0, cells := 0, slots := 0, locals := 0 }
def f_X7_isNumber (x0 : Int32) : Option (Int32) := if (x0 &&& 7) = 7 then some 1 else some 0
set_option maxHeartbeats 4000000 in
set_option maxRecDepth 100000 in
theorem k_X7_isNumber (l : Launch) (tA : Nat) (dC : Nat → ClassId) (dI : Nat → Nat → Nat) (cI cZ cJ : ClassId) (x0 : Int32) (out : Int32) (hf : f_X7_isNumber x0 = some out) : g_Mi l yX7_isNumber cX7_isNumber 1 (some .boolean) r_X7_isNumber tA dC dI cI cZ cJ [.int x0] (w_X7_isNumber cI cZ cJ ) (w_X7_isNumber cI cZ cJ ) out := by
  unfold f_X7_isNumber at hf
  refine ge_i (by decide) (Nat.le_of_ble_eq_true rfl) (fun p e s m below meth c A H locs ls hC hW hl => ?_)
  have hC : g_C p s m meth c _ cX7_isNumber 1 (some .boolean) RX7 := hC
  have hx := hC.1
  have hb := hC.2.1
  have hown := hC.2.2.2.2.1
  have hts := hC.2.2.2.2.2.1
  have hl : lv_has ls 1 [(0, .int x0)] := hl
  refine lv_iload_n hx hb dX7_isNumber_0 rfl (lv_at hl 0 rfl) ?_
  refine lv_bipush (v := 7) hx hb dX7_isNumber_1 (by decide) ?_
  refine lv_iand hx hb dX7_isNumber_3 ?_
  refine lv_bipush (v := 7) hx hb dX7_isNumber_4 (by decide) ?_
  refine lv_icmp_ne (tgt := 13) hx hb dX7_isNumber_6 (by decide) (fun c1 => ?_) (fun c1 => ?_)
  · replace hf := (if_neg c1).symm.trans hf
    refine lv_iconst (v := 0) hx hb dX7_isNumber_13 (by decide) ?_
    obtain rfl := Option.some.inj hf
    exact gs_rz hC hW rfl g_n0 dX7_isNumber_14
  · replace hf := (if_pos c1).symm.trans hf
    refine lv_iconst (v := 1) hx hb dX7_isNumber_9 (by decide) ?_
    refine lv_goto (tgt := 14) hx hb dX7_isNumber_10 (by decide) ?_
    obtain rfl := Option.some.inj hf
    exact gs_rz hC hW rfl g_n1 dX7_isNumber_14

abbrev w_X7_operandOf (cI cZ cJ : ClassId) : va_W := []
abbrev r_X7_operandOf : Room := { frames := 0, cells := 0, slots := 0, locals := 0 }
def f_X7_operandOf (x0 : Int32) : Option (Int32) := some ((x0 <<< (3 &&& 31)) ||| 7)
set_option maxHeartbeats 4000000 in
set_option maxRecDepth 100000 in
theorem k_X7_operandOf (l : Launch) (tA : Nat) (dC : Nat → ClassId) (dI : Nat → Nat → Nat) (cI cZ cJ : ClassId) (x0 : Int32) (out : Int32) (hf : f_X7_operandOf x0 = some out) : g_Mi l yX7_operandOf cX7_operandOf 1 (some .int) r_X7_operandOf tA dC dI cI cZ cJ [.int x0] (w_X7_operandOf cI cZ cJ ) (w_X7_operandOf cI cZ cJ ) out := by
  unfold f_X7_operandOf at hf
  refine ge_i (by decide) (Nat.le_of_ble_eq_true rfl) (fun p e s m below meth c A H locs ls hC hW hl => ?_)
  have hC : g_C p s m meth c _ cX7_operandOf 1 (some .int) RX7 := hC
  have hx := hC.1
  have hb := hC.2.1
  have hown := hC.2.2.2.2.1
  have hts := hC.2.2.2.2.2.1
  have hl : lv_has ls 1 [(0, .int x0)] := hl
  refine lv_iload_n hx hb dX7_operandOf_0 rfl (lv_at hl 0 rfl) ?_
  refine lv_iconst (v := 3) hx hb dX7_operandOf_1 (by decide) ?_
  refine lv_ishl hx hb dX7_operandOf_2 ?_
  refine lv_bipush (v := 7) hx hb dX7_operandOf_3 (by decide) ?_
  refine lv_ior hx hb dX7_operandOf_5 ?_
  obtain rfl := Option.some.inj hf
  exact gs_ri hC hW rfl dX7_operandOf_6

abbrev w_X7_compute (cI cZ cJ : ClassId) : va_W := []
abbrev r_X7_compute : Room := { frames := 0, cells := 0, slots := 0, locals := 0 }
def f_X7_compute (x0 : Int32) (x1 : Int32) (x2 : Int32) : Option (Int32) := if x0 = 1 then some (x1 + x2) else if x0 = 2 then some (x1 - x2) else if x0 = 3 then some (x1 * x2) else if x0 = 4 then if x2 ≤ x1 then some 0 else some 1 else some x1
set_option maxHeartbeats 4000000 in
set_option maxRecDepth 100000 in
theorem k_X7_compute (l : Launch) (tA : Nat) (dC : Nat → ClassId) (dI : Nat → Nat → Nat) (cI cZ cJ : ClassId) (x0 : Int32) (x1 : Int32) (x2 : Int32) (out : Int32) (hf : f_X7_compute x0 x1 x2 = some out) : g_Mi l yX7_compute cX7_compute 3 (some .int) r_X7_compute tA dC dI cI cZ cJ [.int x0, .int x1, .int x2] (w_X7_compute cI cZ cJ ) (w_X7_compute cI cZ cJ ) out := by
  unfold f_X7_compute at hf
  refine ge_i (by decide) (Nat.le_of_ble_eq_true rfl) (fun p e s m below meth c A H locs ls hC hW hl => ?_)
  have hC : g_C p s m meth c _ cX7_compute 3 (some .int) RX7 := hC
  have hx := hC.1
  have hb := hC.2.1
  have hown := hC.2.2.2.2.1
  have hts := hC.2.2.2.2.2.1
  have hl : lv_has ls 3 [(0, .int x0), (1, .int x1), (2, .int x2)] := hl
  refine lv_iload_n hx hb dX7_compute_0 rfl (lv_at hl 0 rfl) ?_
  by_cases c1 : x0 = 1
  · replace hf := (if_pos c1).symm.trans hf
    refine lv_tableIn (off := 31) (tgt := 32) hx hb dX7_compute_1 (by rw [c1]; decide) (by rw [c1]; decide) (by rw [c1]; decide) (by decide) ?_
    refine lv_iload_n hx hb dX7_compute_32 rfl (lv_at hl 1 rfl) ?_
    refine lv_iload_n hx hb dX7_compute_33 rfl (lv_at hl 2 rfl) ?_
    refine lv_iadd hx hb dX7_compute_34 ?_
    obtain rfl := Option.some.inj hf
    exact gs_ri hC hW rfl dX7_compute_35
  · replace hf := (if_neg c1).symm.trans hf
    by_cases c2 : x0 = 2
    · replace hf := (if_pos c2).symm.trans hf
      refine lv_tableIn (off := 35) (tgt := 36) hx hb dX7_compute_1 (by rw [c2]; decide) (by rw [c2]; decide) (by rw [c2]; decide) (by decide) ?_
      refine lv_iload_n hx hb dX7_compute_36 rfl (lv_at hl 1 rfl) ?_
      refine lv_iload_n hx hb dX7_compute_37 rfl (lv_at hl 2 rfl) ?_
      refine lv_isub hx hb dX7_compute_38 ?_
      obtain rfl := Option.some.inj hf
      exact gs_ri hC hW rfl dX7_compute_39
    · replace hf := (if_neg c2).symm.trans hf
      by_cases c3 : x0 = 3
      · replace hf := (if_pos c3).symm.trans hf
        refine lv_tableIn (off := 39) (tgt := 40) hx hb dX7_compute_1 (by rw [c3]; decide) (by rw [c3]; decide) (by rw [c3]; decide) (by decide) ?_
        refine lv_iload_n hx hb dX7_compute_40 rfl (lv_at hl 1 rfl) ?_
        refine lv_iload_n hx hb dX7_compute_41 rfl (lv_at hl 2 rfl) ?_
        refine lv_imul hx hb dX7_compute_42 ?_
        obtain rfl := Option.some.inj hf
        exact gs_ri hC hW rfl dX7_compute_43
      · replace hf := (if_neg c3).symm.trans hf
        by_cases c4 : x0 = 4
        · replace hf := (if_pos c4).symm.trans hf
          refine lv_tableIn (off := 43) (tgt := 44) hx hb dX7_compute_1 (by rw [c4]; decide) (by rw [c4]; decide) (by rw [c4]; decide) (by decide) ?_
          refine lv_iload_n hx hb dX7_compute_44 rfl (lv_at hl 1 rfl) ?_
          refine lv_iload_n hx hb dX7_compute_45 rfl (lv_at hl 2 rfl) ?_
          refine lv_icmp_ge (tgt := 53) hx hb dX7_compute_46 (by decide) (fun c5 => ?_) (fun c5 => ?_)
          · replace hf := (if_pos c5).symm.trans hf
            refine lv_iconst (v := 0) hx hb dX7_compute_53 (by decide) ?_
            obtain rfl := Option.some.inj hf
            exact gs_ri hC hW rfl dX7_compute_54
          · replace hf := (if_neg c5).symm.trans hf
            refine lv_iconst (v := 1) hx hb dX7_compute_49 (by decide) ?_
            refine lv_goto (tgt := 54) hx hb dX7_compute_50 (by decide) ?_
            obtain rfl := Option.some.inj hf
            exact gs_ri hC hW rfl dX7_compute_54
        · replace hf := (if_neg c4).symm.trans hf
          refine gs_tblD (n := 4) (tgt := 55) hx hb dX7_compute_1 (by decide) (by decide) (fun j hj h9 => ?_) ?_
          · rcases (show j = 0 ∨ j = 1 ∨ j = 2 ∨ j = 3 by omega) with rfl | rfl | rfl | rfl
            · exact absurd (g_ti (k := 1) h9 (by decide)) c1
            · exact absurd (g_ti (k := 2) h9 (by decide)) c2
            · exact absurd (g_ti (k := 3) h9 (by decide)) c3
            · exact absurd (g_ti (k := 4) h9 (by decide)) c4
          · refine lv_iload_n hx hb dX7_compute_55 rfl (lv_at hl 1 rfl) ?_
            obtain rfl := Option.some.inj hf
            exact gs_ri hC hW rfl dX7_compute_56

abbrev w_X7_isOperand (cI cZ cJ : ClassId) : va_W := []
abbrev r_X7_isOperand : Room := { frames := 1, cells := 0, slots := 0, locals := 20 }
def f_X7_isOperand (x0 : Int32) : Option (Int32) := if (x0 &&& 7) < 6 then some 1 else (f_X7_isNumber x0).bind (fun o2 => if o2 = 0 then some 0 else some 1)
set_option maxHeartbeats 4000000 in
set_option maxRecDepth 100000 in
theorem k_X7_isOperand (l : Launch) (tA : Nat) (dC : Nat → ClassId) (dI : Nat → Nat → Nat) (cI cZ cJ : ClassId) (x0 : Int32) (out : Int32) (hf : f_X7_isOperand x0 = some out) : g_Mi l yX7_isOperand cX7_isOperand 1 (some .boolean) r_X7_isOperand tA dC dI cI cZ cJ [.int x0] (w_X7_isOperand cI cZ cJ ) (w_X7_isOperand cI cZ cJ ) out := by
  unfold f_X7_isOperand at hf
  refine ge_i (by decide) (Nat.le_of_ble_eq_true rfl) (fun p e s m below meth c A H locs ls hC hW hl => ?_)
  have hC : g_C p s m meth c _ cX7_isOperand 1 (some .boolean) RX7 := hC
  have hx := hC.1
  have hb := hC.2.1
  have hown := hC.2.2.2.2.1
  have hts := hC.2.2.2.2.2.1
  have hl : lv_has ls 1 [(0, .int x0)] := hl
  refine lv_iload_n hx hb dX7_isOperand_0 rfl (lv_at hl 0 rfl) ?_
  refine lv_bipush (v := 7) hx hb dX7_isOperand_1 (by decide) ?_
  refine lv_iand hx hb dX7_isOperand_3 ?_
  refine lv_bipush (v := 6) hx hb dX7_isOperand_4 (by decide) ?_
  refine lv_icmp_lt (tgt := 16) hx hb dX7_isOperand_6 (by decide) (fun c1 => ?_) (fun c1 => ?_)
  · replace hf := (if_pos c1).symm.trans hf
    refine lv_iconst (v := 1) hx hb dX7_isOperand_16 (by decide) ?_
    refine lv_goto (tgt := 21) hx hb dX7_isOperand_17 (by decide) ?_
    obtain rfl := Option.some.inj hf
    exact gs_rz hC hW rfl g_n1 dX7_isOperand_21
  · replace hf := (if_neg c1).symm.trans hf
    refine lv_iload_n hx hb dX7_isOperand_9 rfl (lv_at hl 0 rfl) ?_
    obtain ⟨o2, h2, hf⟩ := g_bnd hf
    refine gs_callSi (ws' := w_X7_isOperand cI cZ cJ ) hC hW (k_X7_isNumber l tA dC dI cI cZ cJ x0 _ h2) yk_X7_isNumber lk_X7_224 is_X7_isNumber ⟨rfl, rfl⟩ ⟨Nat.le_of_ble_eq_true rfl, Nat.le_of_ble_eq_true rfl⟩ hl.1 [] [] [] rfl rfl rfl rfl (by decide) rfl rfl rfl rfl (Nat.le_of_ble_eq_true rfl) dX7_isOperand_10 ⟨Nat.zero_le _, Nat.zero_le _⟩ (fun H locs hW => ?_)
    refine lv_if_eq (tgt := 20) hx hb dX7_isOperand_13 (by decide) (fun c3 => ?_) (fun c3 => ?_)
    · replace hf := (if_pos c3).symm.trans hf
      refine lv_iconst (v := 0) hx hb dX7_isOperand_20 (by decide) ?_
      obtain rfl := Option.some.inj hf
      exact gs_rz hC hW rfl g_n0 dX7_isOperand_21
    · replace hf := (if_neg c3).symm.trans hf
      refine lv_iconst (v := 1) hx hb dX7_isOperand_16 (by decide) ?_
      refine lv_goto (tgt := 21) hx hb dX7_isOperand_17 (by decide) ?_
      obtain rfl := Option.some.inj hf
      exact gs_rz hC hW rfl g_n1 dX7_isOperand_21

abbrev w_X7_areOperands (cI cZ cJ : ClassId) : va_W := []
abbrev r_X7_areOperands : Room := { frames := 2, cells := 0, slots := 0, locals := 40 }
def f_X7_areOperands_12 (x0 : Int32) (x1 : Int32) (x2 : Int32) (x3 : Int32) : Option (Int32) := if x0 < 2 then if x0 < 3 then some 1 else (f_X7_isOperand x3).bind (fun o3 => if o3 = 0 then some 0 else some 1) else (f_X7_isOperand x2).bind (fun o5 => if o5 = 0 then some 0 else if x0 < 3 then some 1 else (f_X7_isOperand x3).bind (fun o8 => if o8 = 0 then some 0 else some 1))
set_option maxHeartbeats 4000000 in
set_option maxRecDepth 100000 in
theorem b_X7_areOperands_12 {p : Program} {l : Launch} {e : Env} {s : State} {m : MethodId} {args : Array Value} {below : List Frame} {meth : Method} {c : Code} {tA : Nat} {dC : Nat → ClassId} {dI : Nat → Nat → Nat} {cI cZ cJ : ClassId} {A : Nat → Prop} {x0 : Int32} {x1 : Int32} {x2 : Int32} {x3 : Int32} {out : Int32} (hC : g_C p s m meth c args cX7_areOperands 4 (some .boolean) RX7) (hf : f_X7_areOperands_12 x0 x1 x2 x3 = some out) {H : Heap} {locs : List Loc} {ls : Array Slot} (hW : g_W tA dC dI cI cZ cJ A s H locs (w_X7_areOperands cI cZ cJ )) (hl : lv_has ls 4 [(0, .int x0), (2, .int x2), (3, .int x3)]) : W p l e r_X7_areOperands s m args below meth c H locs 0 0 (MQ below (g_Qi dC dI cI cZ cJ A (w_X7_areOperands cI cZ cJ ) out) args s 0 0 A) (F0 m 12 ls []) := by
  have hx := hC.1
  have hb := hC.2.1
  have hown := hC.2.2.2.2.1
  have hts := hC.2.2.2.2.2.1
  unfold f_X7_areOperands_12 at hf
  refine lv_iload_n hx hb dX7_areOperands_12 rfl (lv_at hl 0 rfl) ?_
  refine lv_iconst (v := 2) hx hb dX7_areOperands_13 (by decide) ?_
  refine lv_icmp_lt (tgt := 24) hx hb dX7_areOperands_14 (by decide) (fun c1 => ?_) (fun c1 => ?_)
  · replace hf := (if_pos c1).symm.trans hf
    refine lv_iload_n hx hb dX7_areOperands_24 rfl (lv_at hl 0 rfl) ?_
    refine lv_iconst (v := 3) hx hb dX7_areOperands_25 (by decide) ?_
    refine lv_icmp_lt (tgt := 36) hx hb dX7_areOperands_26 (by decide) (fun c2 => ?_) (fun c2 => ?_)
    · replace hf := (if_pos c2).symm.trans hf
      refine lv_iconst (v := 1) hx hb dX7_areOperands_36 (by decide) ?_
      refine lv_goto (tgt := 41) hx hb dX7_areOperands_37 (by decide) ?_
      obtain rfl := Option.some.inj hf
      exact gs_rz hC hW rfl g_n1 dX7_areOperands_41
    · replace hf := (if_neg c2).symm.trans hf
      refine lv_iload_n hx hb dX7_areOperands_29 rfl (lv_at hl 2 rfl) ?_
      obtain ⟨o3, h3, hf⟩ := g_bnd hf
      refine gs_callSi (ws' := w_X7_areOperands cI cZ cJ ) hC hW (k_X7_isOperand l tA dC dI cI cZ cJ x3 _ h3) yk_X7_isOperand lk_X7_221 is_X7_isOperand ⟨rfl, rfl⟩ ⟨Nat.le_of_ble_eq_true rfl, Nat.le_of_ble_eq_true rfl⟩ hl.1 [] [] [] rfl rfl rfl rfl (by decide) rfl rfl rfl rfl (Nat.le_of_ble_eq_true rfl) dX7_areOperands_30 ⟨Nat.zero_le _, Nat.zero_le _⟩ (fun H locs hW => ?_)
      refine lv_if_eq (tgt := 40) hx hb dX7_areOperands_33 (by decide) (fun c4 => ?_) (fun c4 => ?_)
      · replace hf := (if_pos c4).symm.trans hf
        refine lv_iconst (v := 0) hx hb dX7_areOperands_40 (by decide) ?_
        obtain rfl := Option.some.inj hf
        exact gs_rz hC hW rfl g_n0 dX7_areOperands_41
      · replace hf := (if_neg c4).symm.trans hf
        refine lv_iconst (v := 1) hx hb dX7_areOperands_36 (by decide) ?_
        refine lv_goto (tgt := 41) hx hb dX7_areOperands_37 (by decide) ?_
        obtain rfl := Option.some.inj hf
        exact gs_rz hC hW rfl g_n1 dX7_areOperands_41
  · replace hf := (if_neg c1).symm.trans hf
    refine lv_iload_n hx hb dX7_areOperands_17 rfl (lv_at hl 1 rfl) ?_
    obtain ⟨o5, h5, hf⟩ := g_bnd hf
    refine gs_callSi (ws' := w_X7_areOperands cI cZ cJ ) hC hW (k_X7_isOperand l tA dC dI cI cZ cJ x2 _ h5) yk_X7_isOperand lk_X7_221 is_X7_isOperand ⟨rfl, rfl⟩ ⟨Nat.le_of_ble_eq_true rfl, Nat.le_of_ble_eq_true rfl⟩ hl.1 [] [] [] rfl rfl rfl rfl (by decide) rfl rfl rfl rfl (Nat.le_of_ble_eq_true rfl) dX7_areOperands_18 ⟨Nat.zero_le _, Nat.zero_le _⟩ (fun H locs hW => ?_)
    refine lv_if_eq (tgt := 40) hx hb dX7_areOperands_21 (by decide) (fun c6 => ?_) (fun c6 => ?_)
    · replace hf := (if_pos c6).symm.trans hf
      refine lv_iconst (v := 0) hx hb dX7_areOperands_40 (by decide) ?_
      obtain rfl := Option.some.inj hf
      exact gs_rz hC hW rfl g_n0 dX7_areOperands_41
    · replace hf := (if_neg c6).symm.trans hf
      refine lv_iload_n hx hb dX7_areOperands_24 rfl (lv_at hl 0 rfl) ?_
      refine lv_iconst (v := 3) hx hb dX7_areOperands_25 (by decide) ?_
      refine lv_icmp_lt (tgt := 36) hx hb dX7_areOperands_26 (by decide) (fun c7 => ?_) (fun c7 => ?_)
      · replace hf := (if_pos c7).symm.trans hf
        refine lv_iconst (v := 1) hx hb dX7_areOperands_36 (by decide) ?_
        refine lv_goto (tgt := 41) hx hb dX7_areOperands_37 (by decide) ?_
        obtain rfl := Option.some.inj hf
        exact gs_rz hC hW rfl g_n1 dX7_areOperands_41
      · replace hf := (if_neg c7).symm.trans hf
        refine lv_iload_n hx hb dX7_areOperands_29 rfl (lv_at hl 2 rfl) ?_
        obtain ⟨o8, h8, hf⟩ := g_bnd hf
        refine gs_callSi (ws' := w_X7_areOperands cI cZ cJ ) hC hW (k_X7_isOperand l tA dC dI cI cZ cJ x3 _ h8) yk_X7_isOperand lk_X7_221 is_X7_isOperand ⟨rfl, rfl⟩ ⟨Nat.le_of_ble_eq_true rfl, Nat.le_of_ble_eq_true rfl⟩ hl.1 [] [] [] rfl rfl rfl rfl (by decide) rfl rfl rfl rfl (Nat.le_of_ble_eq_true rfl) dX7_areOperands_30 ⟨Nat.zero_le _, Nat.zero_le _⟩ (fun H locs hW => ?_)
        refine lv_if_eq (tgt := 40) hx hb dX7_areOperands_33 (by decide) (fun c9 => ?_) (fun c9 => ?_)
        · replace hf := (if_pos c9).symm.trans hf
          refine lv_iconst (v := 0) hx hb dX7_areOperands_40 (by decide) ?_
          obtain rfl := Option.some.inj hf
          exact gs_rz hC hW rfl g_n0 dX7_areOperands_41
        · replace hf := (if_neg c9).symm.trans hf
          refine lv_iconst (v := 1) hx hb dX7_areOperands_36 (by decide) ?_
          refine lv_goto (tgt := 41) hx hb dX7_areOperands_37 (by decide) ?_
          obtain rfl := Option.some.inj hf
          exact gs_rz hC hW rfl g_n1 dX7_areOperands_41
def f_X7_areOperands (x0 : Int32) (x1 : Int32) (x2 : Int32) (x3 : Int32) : Option (Int32) := if x0 < 1 then f_X7_areOperands_12 x0 x1 x2 x3 else (f_X7_isOperand x1).bind (fun o11 => if o11 = 0 then some 0 else f_X7_areOperands_12 x0 x1 x2 x3)
set_option maxHeartbeats 4000000 in
set_option maxRecDepth 100000 in
theorem k_X7_areOperands (l : Launch) (tA : Nat) (dC : Nat → ClassId) (dI : Nat → Nat → Nat) (cI cZ cJ : ClassId) (x0 : Int32) (x1 : Int32) (x2 : Int32) (x3 : Int32) (out : Int32) (hf : f_X7_areOperands x0 x1 x2 x3 = some out) : g_Mi l yX7_areOperands cX7_areOperands 4 (some .boolean) r_X7_areOperands tA dC dI cI cZ cJ [.int x0, .int x1, .int x2, .int x3] (w_X7_areOperands cI cZ cJ ) (w_X7_areOperands cI cZ cJ ) out := by
  unfold f_X7_areOperands at hf
  refine ge_i (by decide) (Nat.le_of_ble_eq_true rfl) (fun p e s m below meth c A H locs ls hC hW hl => ?_)
  have hC : g_C p s m meth c _ cX7_areOperands 4 (some .boolean) RX7 := hC
  have hx := hC.1
  have hb := hC.2.1
  have hown := hC.2.2.2.2.1
  have hts := hC.2.2.2.2.2.1
  have hl : lv_has ls 4 [(0, .int x0), (1, .int x1), (2, .int x2), (3, .int x3)] := hl
  refine lv_iload_n hx hb dX7_areOperands_0 rfl (lv_at hl 0 rfl) ?_
  refine lv_iconst (v := 1) hx hb dX7_areOperands_1 (by decide) ?_
  refine lv_icmp_lt (tgt := 12) hx hb dX7_areOperands_2 (by decide) (fun c10 => ?_) (fun c10 => ?_)
  · replace hf := (if_pos c10).symm.trans hf
    exact b_X7_areOperands_12 hC hf hW (lv_sub hl [0, 2, 3] rfl)
  · replace hf := (if_neg c10).symm.trans hf
    refine lv_iload_n hx hb dX7_areOperands_5 rfl (lv_at hl 1 rfl) ?_
    obtain ⟨o11, h11, hf⟩ := g_bnd hf
    refine gs_callSi (ws' := w_X7_areOperands cI cZ cJ ) hC hW (k_X7_isOperand l tA dC dI cI cZ cJ x1 _ h11) yk_X7_isOperand lk_X7_221 is_X7_isOperand ⟨rfl, rfl⟩ ⟨Nat.le_of_ble_eq_true rfl, Nat.le_of_ble_eq_true rfl⟩ hl.1 [] [] [] rfl rfl rfl rfl (by decide) rfl rfl rfl rfl (Nat.le_of_ble_eq_true rfl) dX7_areOperands_6 ⟨Nat.zero_le _, Nat.zero_le _⟩ (fun H locs hW => ?_)
    refine lv_if_eq (tgt := 40) hx hb dX7_areOperands_9 (by decide) (fun c12 => ?_) (fun c12 => ?_)
    · replace hf := (if_pos c12).symm.trans hf
      refine lv_iconst (v := 0) hx hb dX7_areOperands_40 (by decide) ?_
      obtain rfl := Option.some.inj hf
      exact gs_rz hC hW rfl g_n0 dX7_areOperands_41
    · replace hf := (if_neg c12).symm.trans hf
      exact b_X7_areOperands_12 hC hf hW (lv_sub hl [0, 2, 3] rfl)

abbrev w_X7_isTallied (cI cZ cJ : ClassId) : va_W := []
abbrev r_X7_isTallied : Room := { frames := 0, cells := 0, slots := 0, locals := 0 }
def f_X7_isTallied (x0 : Int32) (x1 : Int32) : Option (Int32) := if x0 < 0 then some 0 else if 12 ≤ x0 then some 0 else if x1 < 0 then some 0 else if 3 ≤ x1 then some 0 else some 1
set_option maxHeartbeats 4000000 in
set_option maxRecDepth 100000 in
theorem k_X7_isTallied (l : Launch) (tA : Nat) (dC : Nat → ClassId) (dI : Nat → Nat → Nat) (cI cZ cJ : ClassId) (x0 : Int32) (x1 : Int32) (out : Int32) (hf : f_X7_isTallied x0 x1 = some out) : g_Mi l yX7_isTallied cX7_isTallied 2 (some .boolean) r_X7_isTallied tA dC dI cI cZ cJ [.int x0, .int x1] (w_X7_isTallied cI cZ cJ ) (w_X7_isTallied cI cZ cJ ) out := by
  unfold f_X7_isTallied at hf
  refine ge_i (by decide) (Nat.le_of_ble_eq_true rfl) (fun p e s m below meth c A H locs ls hC hW hl => ?_)
  have hC : g_C p s m meth c _ cX7_isTallied 2 (some .boolean) RX7 := hC
  have hx := hC.1
  have hb := hC.2.1
  have hown := hC.2.2.2.2.1
  have hts := hC.2.2.2.2.2.1
  have hl : lv_has ls 2 [(0, .int x0), (1, .int x1)] := hl
  refine lv_iload_n hx hb dX7_isTallied_0 rfl (lv_at hl 0 rfl) ?_
  refine lv_if_lt (tgt := 23) hx hb dX7_isTallied_1 (by decide) (fun c1 => ?_) (fun c1 => ?_)
  · replace hf := (if_pos c1).symm.trans hf
    refine lv_iconst (v := 0) hx hb dX7_isTallied_23 (by decide) ?_
    obtain rfl := Option.some.inj hf
    exact gs_rz hC hW rfl g_n0 dX7_isTallied_24
  · replace hf := (if_neg c1).symm.trans hf
    refine lv_iload_n hx hb dX7_isTallied_4 rfl (lv_at hl 0 rfl) ?_
    refine lv_bipush (v := 12) hx hb dX7_isTallied_5 (by decide) ?_
    refine lv_icmp_ge (tgt := 23) hx hb dX7_isTallied_7 (by decide) (fun c2 => ?_) (fun c2 => ?_)
    · replace hf := (if_pos c2).symm.trans hf
      refine lv_iconst (v := 0) hx hb dX7_isTallied_23 (by decide) ?_
      obtain rfl := Option.some.inj hf
      exact gs_rz hC hW rfl g_n0 dX7_isTallied_24
    · replace hf := (if_neg c2).symm.trans hf
      refine lv_iload_n hx hb dX7_isTallied_10 rfl (lv_at hl 1 rfl) ?_
      refine lv_if_lt (tgt := 23) hx hb dX7_isTallied_11 (by decide) (fun c3 => ?_) (fun c3 => ?_)
      · replace hf := (if_pos c3).symm.trans hf
        refine lv_iconst (v := 0) hx hb dX7_isTallied_23 (by decide) ?_
        obtain rfl := Option.some.inj hf
        exact gs_rz hC hW rfl g_n0 dX7_isTallied_24
      · replace hf := (if_neg c3).symm.trans hf
        refine lv_iload_n hx hb dX7_isTallied_14 rfl (lv_at hl 1 rfl) ?_
        refine lv_iconst (v := 3) hx hb dX7_isTallied_15 (by decide) ?_
        refine lv_icmp_ge (tgt := 23) hx hb dX7_isTallied_16 (by decide) (fun c4 => ?_) (fun c4 => ?_)
        · replace hf := (if_pos c4).symm.trans hf
          refine lv_iconst (v := 0) hx hb dX7_isTallied_23 (by decide) ?_
          obtain rfl := Option.some.inj hf
          exact gs_rz hC hW rfl g_n0 dX7_isTallied_24
        · replace hf := (if_neg c4).symm.trans hf
          refine lv_iconst (v := 1) hx hb dX7_isTallied_19 (by decide) ?_
          refine lv_goto (tgt := 24) hx hb dX7_isTallied_20 (by decide) ?_
          obtain rfl := Option.some.inj hf
          exact gs_rz hC hW rfl g_n1 dX7_isTallied_24
