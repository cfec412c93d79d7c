theorem yk_X7_function : g_Y yX7_function cX7_function 2 (some .int) 1 := ⟨gw_i 318 (by decide +kernel) rfl, gw_i 56 (by decide +kernel) rfl, by decide +kernel, by decide +kernel, by decide +kernel⟩
theorem lk_L_7 : Cond.methodLink RL 7 yX7_function ∈ gw := gw_i 315 (by decide +kernel) rfl
theorem iv_X7_function : Cond.instanceMethod yX7_function ∈ gw ∧ Cond.selects RX7 yX7_function yX7_function ∈ gw := ⟨gw_i 316 (by decide +kernel) rfl, gw_i 317 (by decide +kernel) rfl⟩
theorem cl_L_13 : Cond.classLink RL 13 g_IA ∈ gw := gw_i 313 (by decide +kernel) rfl
theorem cl_L_15 : Cond.classLink RL 15 g_IS ∈ gw := gw_i 314 (by decide +kernel) rfl
theorem yk_X7_code : g_Y yX7_code cX7_code 10 (some .int) 6 := ⟨gw_i 419 (by decide +kernel) rfl, gw_i 56 (by decide +kernel) rfl, by decide +kernel, by decide +kernel, by decide +kernel⟩
theorem lk_L_17 : Cond.methodLink RL 17 yX7_code ∈ gw := gw_i 416 (by decide +kernel) rfl
theorem iv_X7_code : Cond.instanceMethod yX7_code ∈ gw ∧ Cond.selects RX7 yX7_code yX7_code ∈ gw := ⟨gw_i 417 (by decide +kernel) rfl, gw_i 418 (by decide +kernel) rfl⟩
theorem cl_L_21 : Cond.classLink RL 21 g_IO ∈ gw := gw_i 415 (by decide +kernel) rfl
theorem yk_X7_table : g_Y yX7_table cX7_table 2 (some .int) 1 := ⟨gw_i 472 (by decide +kernel) rfl, gw_i 56 (by decide +kernel) rfl, by decide +kernel, by decide +kernel, by decide +kernel⟩
theorem lk_L_23 : Cond.methodLink RL 23 yX7_table ∈ gw := gw_i 469 (by decide +kernel) rfl
theorem iv_X7_table : Cond.instanceMethod yX7_table ∈ gw ∧ Cond.selects RX7 yX7_table yX7_table ∈ gw := ⟨gw_i 470 (by decide +kernel) rfl, gw_i 471 (by decide +kernel) rfl⟩
theorem yk_X7_analyse : g_Y yX7_analyse cX7_analyse 3 (some .int) 1 := ⟨gw_i 484 (by decide +kernel) rfl, gw_i 56 (by decide +kernel) rfl, by decide +kernel, by decide +kernel, by decide +kernel⟩
theorem lk_L_26 : Cond.methodLink RL 26 yX7_analyse ∈ gw := gw_i 481 (by decide +kernel) rfl
theorem iv_X7_analyse : Cond.instanceMethod yX7_analyse ∈ gw ∧ Cond.selects RX7 yX7_analyse yX7_analyse ∈ gw := ⟨gw_i 482 (by decide +kernel) rfl, gw_i 483 (by decide +kernel) rfl⟩
theorem yk_X7_kind : g_Y yX7_kind cX7_kind 5 (some .int) 3 := ⟨gw_i 653 (by decide +kernel) rfl, gw_i 56 (by decide +kernel) rfl, by decide +kernel, by decide +kernel, by decide +kernel⟩
theorem lk_L_29 : Cond.methodLink RL 29 yX7_kind ∈ gw := gw_i 650 (by decide +kernel) rfl
theorem iv_X7_kind : Cond.instanceMethod yX7_kind ∈ gw ∧ Cond.selects RX7 yX7_kind yX7_kind ∈ gw := ⟨gw_i 651 (by decide +kernel) rfl, gw_i 652 (by decide +kernel) rfl⟩
theorem yk_X7_number : g_Y yX7_number cX7_number 5 (some .int) 3 := ⟨gw_i 668 (by decide +kernel) rfl, gw_i 56 (by decide +kernel) rfl, by decide +kernel, by decide +kernel, by decide +kernel⟩
theorem lk_L_33 : Cond.methodLink RL 33 yX7_number ∈ gw := gw_i 665 (by decide +kernel) rfl
theorem iv_X7_number : Cond.instanceMethod yX7_number ∈ gw ∧ Cond.selects RX7 yX7_number yX7_number ∈ gw := ⟨gw_i 666 (by decide +kernel) rfl, gw_i 667 (by decide +kernel) rfl⟩
theorem yk_X7_statement : g_Y yX7_statement cX7_statement 4 (some .int) 3 := ⟨gw_i 676 (by decide +kernel) rfl, gw_i 56 (by decide +kernel) rfl, by decide +kernel, by decide +kernel, by decide +kernel⟩
theorem lk_L_36 : Cond.methodLink RL 36 yX7_statement ∈ gw := gw_i 673 (by decide +kernel) rfl
theorem iv_X7_statement : Cond.instanceMethod yX7_statement ∈ gw ∧ Cond.selects RX7 yX7_statement yX7_statement ∈ gw := ⟨gw_i 674 (by decide +kernel) rfl, gw_i 675 (by decide +kernel) rfl⟩
theorem yk_X7_run : g_Y yX7_run cX7_run 3 (some .int) 2 := ⟨gw_i 686 (by decide +kernel) rfl, gw_i 56 (by decide +kernel) rfl, by decide +kernel, by decide +kernel, by decide +kernel⟩
theorem lk_L_39 : Cond.methodLink RL 39 yX7_run ∈ gw := gw_i 683 (by decide +kernel) rfl
theorem iv_X7_run : Cond.instanceMethod yX7_run ∈ gw ∧ Cond.selects RX7 yX7_run yX7_run ∈ gw := ⟨gw_i 684 (by decide +kernel) rfl, gw_i 685 (by decide +kernel) rfl⟩
theorem yk_X7_output : g_Y yX7_output cX7_output 2 (some .int) 1 := ⟨gw_i 746 (by decide +kernel) rfl, gw_i 56 (by decide +kernel) rfl, by decide +kernel, by decide +kernel, by decide +kernel⟩
theorem lk_L_43 : Cond.methodLink RL 43 yX7_output ∈ gw := gw_i 743 (by decide +kernel) rfl
theorem iv_X7_output : Cond.instanceMethod yX7_output ∈ gw ∧ Cond.selects RX7 yX7_output yX7_output ∈ gw := ⟨gw_i 744 (by decide +kernel) rfl, gw_i 745 (by decide +kernel) rfl⟩
theorem yk_X7_calls : g_Y yX7_calls cX7_calls 2 (some .int) 1 := ⟨gw_i 754 (by decide +kernel) rfl, gw_i 56 (by decide +kernel) rfl, by decide +kernel, by decide +kernel, by decide +kernel⟩
theorem lk_L_46 : Cond.methodLink RL 46 yX7_calls ∈ gw := gw_i 751 (by decide +kernel) rfl
theorem iv_X7_calls : Cond.instanceMethod yX7_calls ∈ gw ∧ Cond.selects RX7 yX7_calls yX7_calls ∈ gw := ⟨gw_i 752 (by decide +kernel) rfl, gw_i 753 (by decide +kernel) rfl⟩
theorem yk_X7_same : g_Y yX7_same cX7_same 3 (some .boolean) 2 := ⟨gw_i 762 (by decide +kernel) rfl, gw_i 56 (by decide +kernel) rfl, by decide +kernel, by decide +kernel, by decide +kernel⟩
theorem lk_L_49 : Cond.methodLink RL 49 yX7_same ∈ gw := gw_i 759 (by decide +kernel) rfl
theorem iv_X7_same : Cond.instanceMethod yX7_same ∈ gw ∧ Cond.selects RX7 yX7_same yX7_same ∈ gw := ⟨gw_i 760 (by decide +kernel) rfl, gw_i 761 (by decide +kernel) rfl⟩
theorem yk_X7_latest : g_Y yX7_latest cX7_latest 3 (some .int) 2 := ⟨gw_i 773 (by decide +kernel) rfl, gw_i 56 (by decide +kernel) rfl, by decide +kernel, by decide +kernel, by decide +kernel⟩
theorem lk_L_53 : Cond.methodLink RL 53 yX7_latest ∈ gw := gw_i 770 (by decide +kernel) rfl
theorem iv_X7_latest : Cond.instanceMethod yX7_latest ∈ gw ∧ Cond.selects RX7 yX7_latest yX7_latest ∈ gw := ⟨gw_i 771 (by decide +kernel) rfl, gw_i 772 (by decide +kernel) rfl⟩
abbrev r_L_function : Room := { frames := 7, cells := 1, slots := 6, locals := 103 }
set_option maxHeartbeats 4000000 in
set_option maxRecDepth 100000 in
theorem k_L_function (l : Launch) (tA : Nat) (dC : Nat → ClassId) (dI : Nat → Nat → Nat) (cI cZ cJ : ClassId) (hlt : l.stackTraces = false) (a_t : Nat) (a_tb : Nat) (a_tb_parameterCounts : Nat) (a_tb_lengths : Nat) (a_ta : Nat) (a_tk : Nat) (a_tf : Nat) (a_tg : Nat) (a_ty : Nat) (a_th : Nat) (a_tb_fields : Nat) (a_tb_entries : Nat) (a_o : Nat) (x1 : Int32) (t_analysed : Int32) (tb_functionCount : Int32) (tb_entryCount : Int32) (tb_parameterCounts : Nat → Int32) (tb_lengths : Nat → Int32) (fo : Nat → Int64) (out : (Int32 × Int32 × Int32 × (Nat → Int32) × (Nat → Int32)) ⊕ String) (hf : f_X7_function x1 t_analysed tb_functionCount tb_parameterCounts tb_lengths = some out) (hE : ∀ E, out = .inr E → E = g_IA ∨ E = g_IS) : g_ML l yL_function cL_function 4 (some .int) [(0, 9, 12, 13), (0, 9, 15, 15)] r_L_function tA dC dI cI cZ cJ [.ref a_t, .int x1, .ref a_o] (w_X7_function cI cZ cJ a_t a_tb a_tb_parameterCounts a_tb_lengths a_ta a_tk a_tf a_tg a_ty a_th a_tb_fields a_tb_entries t_analysed tb_functionCount tb_entryCount tb_parameterCounts tb_lengths ++ [(a_o, .inl (cJ, 1, .inr (.inl fo)))]) (g_wo out (fun u => w_X7_function cI cZ cJ a_t a_tb a_tb_parameterCounts a_tb_lengths a_ta a_tk a_tf a_tg a_ty a_th a_tb_fields a_tb_entries u.2.1 u.2.2.1 tb_entryCount u.2.2.2.1 u.2.2.2.2 ++ [(a_o, .inl (cJ, 1, .inr (.inl (vp_updL fo 0 u.1.toInt64))))]) (w_X7_function cI cZ cJ a_t a_tb a_tb_parameterCounts a_tb_lengths a_ta a_tk a_tf a_tg a_ty a_th a_tb_fields a_tb_entries t_analysed tb_functionCount tb_entryCount tb_parameterCounts tb_lengths ++ [(a_o, .inl (cJ, 1, .inr (.inl fo)))])) (g_kk [g_IA, g_IS] out) := by
  refine ge_L (by decide) (Nat.le_of_ble_eq_true rfl) (fun p e s m below meth c A H locs ls hC hxt hH hN hW hl => ?_)
  have hC : g_C p s m meth c _ cL_function 4 (some .int) RL := hC
  have hx := hC.1
  have hb := hC.2.1
  have hl : lv_has ls 4 [(0, .ref a_t), (1, .int x1), (2, .ref a_o)] := hl
  refine lv_aload_n hx hb dL_function_0 rfl (lv_at hl 2 rfl) ?_
  refine lv_iconst (v := 0) hx hb dL_function_1 (by decide) ?_
  refine lv_aload_n hx hb dL_function_2 rfl (lv_at hl 0 rfl) ?_
  refine lv_iload_n hx hb dL_function_3 rfl (lv_at hl 1 rfl) ?_
  refine gs_callXL (ws' := fun u => w_X7_function cI cZ cJ a_t a_tb a_tb_parameterCounts a_tb_lengths a_ta a_tk a_tf a_tg a_ty a_th a_tb_fields a_tb_entries u.2.1 u.2.2.1 tb_entryCount u.2.2.2.1 u.2.2.2.2 ++ [(a_o, .inl (cJ, 1, .inr (.inl fo)))]) hC hW hH (k_X7_function l tA dC dI cI cZ cJ hlt a_t a_tb a_tb_parameterCounts a_tb_lengths a_ta a_tk a_tf a_tg a_ty a_th a_tb_fields a_tb_entries x1 t_analysed tb_functionCount tb_entryCount tb_parameterCounts tb_lengths _ hf) yk_X7_function lk_L_7 iv_X7_function ⟨rfl, rfl⟩ ⟨Nat.le_of_ble_eq_true rfl, Nat.le_of_ble_eq_true rfl⟩ hl.1 0 rfl rfl [0, 1, 2, 3] [4] [1, 2, 3, 4, 0] rfl rfl rfl rfl (by decide) rfl (fun _ => rfl) rfl rfl rfl (Nat.le_of_ble_eq_true rfl) dL_function_4 ⟨by decide, by decide⟩ (fun E ce q9 H locs ho hW hce hcv hcl => ?_) (fun u H locs ho hW => ?_)
  · rcases hE E ho with rfl | rfl
    · subst ho
      refine gs_catch hC [] ⟨0, 9, 12, 13⟩ [⟨0, 9, 15, 15⟩] hxt (fun z hz => absurd hz List.not_mem_nil) (by decide) (by decide) cl_L_13 hH (by decide) hce hcv hcl ?_
      refine lv_astore_n (lv' := [(3, .ref q9), (0, .ref a_t), (1, .int x1), (2, .ref a_o)]) hx hb dL_function_12 rfl hl (by decide) rfl (fun ls hl => ?_)
      refine lv_iconst (v := 1) hx hb dL_function_13 (by decide) ?_
      exact gs_ri hC hW rfl dL_function_14
    · subst ho
      refine gs_catch hC [⟨0, 9, 12, 13⟩] ⟨0, 9, 15, 15⟩ [] hxt (fun z hz => ?_) (by decide) (by decide) cl_L_15 hH (by decide) hce hcv hcl ?_
      · obtain rfl : z = ⟨0, 9, 12, 13⟩ := by simpa using hz
        exact ⟨by decide, g_IA, cl_L_13, hN (g_IS, g_IA) (by simp)⟩
      · refine lv_astore_n (lv' := [(3, .ref q9), (0, .ref a_t), (1, .int x1), (2, .ref a_o)]) hx hb dL_function_15 rfl hl (by decide) rfl (fun ls hl => ?_)
        refine lv_iconst (v := 2) hx hb dL_function_16 (by decide) ?_
        exact gs_ri hC hW rfl dL_function_17
  · subst ho
    refine lv_i2l hx hb dL_function_7 rfl ?_
    refine gs_last (ws' := w_X7_function cI cZ cJ a_t a_tb a_tb_parameterCounts a_tb_lengths a_ta a_tk a_tf a_tg a_ty a_th a_tb_fields a_tb_entries u.2.1 u.2.2.1 tb_entryCount u.2.2.2.1 u.2.2.2.2 ++ [(a_o, .inl (cJ, 1, .inr (.inl (vp_updL fo 0 u.1.toInt64))))]) hC hW 4 rfl rfl dL_function_8 (fun H locs hW => ?_)
    refine lv_goto (tgt := 18) hx hb dL_function_9 (by decide) ?_
    refine lv_iconst (v := 0) hx hb dL_function_18 (by decide) ?_
    exact gs_ri hC hW rfl dL_function_19

abbrev r_L_code : Room := { frames := 7, cells := 1, slots := 6, locals := 111 }
set_option maxHeartbeats 4000000 in
set_option maxRecDepth 100000 in
theorem k_L_code (l : Launch) (tA : Nat) (dC : Nat → ClassId) (dI : Nat → Nat → Nat) (cI cZ cJ : ClassId) (hlt : l.stackTraces = false) (a_t : Nat) (a_tb : Nat) (a_tb_lengths : Nat) (a_tb_fields : Nat) (a_ta : Nat) (a_tk : Nat) (a_tf : Nat) (a_tg : Nat) (a_ty : Nat) (a_th : Nat) (a_tb_parameterCounts : Nat) (a_tb_entries : Nat) (a_o : Nat) (x1 : Int32) (x2 : Int32) (x3 : Int32) (x4 : Int32) (x5 : Int32) (x6 : Int32) (t_analysed : Int32) (tb_functionCount : Int32) (tb_entryCount : Int32) (tb_lengths : Nat → Int32) (tb_fields : Nat → Int32) (fo : Nat → Int64) (out : (Int32 × Int32 × (Nat → Int32) × (Nat → Int32)) ⊕ String) (hf : f_X7_code x1 x2 x3 x4 x5 x6 t_analysed tb_functionCount tb_lengths tb_fields = some out) (hE : ∀ E, out = .inr E → E = g_IO ∨ E = g_IA ∨ E = g_IS) : g_ML l yL_code cL_code 9 (some .int) [(0, 18, 21, 21), (0, 18, 25, 13), (0, 18, 29, 15)] r_L_code tA dC dI cI cZ cJ [.ref a_t, .int x1, .int x2, .int x3, .int x4, .int x5, .int x6, .ref a_o] (w_X7_code cI cZ cJ a_t a_tb a_tb_lengths a_tb_fields a_ta a_tk a_tf a_tg a_ty a_th a_tb_parameterCounts a_tb_entries t_analysed tb_functionCount tb_entryCount tb_lengths tb_fields ++ [(a_o, .inl (cJ, 1, .inr (.inl fo)))]) (g_wo out (fun u => w_X7_code cI cZ cJ a_t a_tb a_tb_lengths a_tb_fields a_ta a_tk a_tf a_tg a_ty a_th a_tb_parameterCounts a_tb_entries u.2.1 tb_functionCount tb_entryCount u.2.2.1 u.2.2.2 ++ [(a_o, .inl (cJ, 1, .inr (.inl (vp_updL fo 0 u.1.toInt64))))]) (w_X7_code cI cZ cJ a_t a_tb a_tb_lengths a_tb_fields a_ta a_tk a_tf a_tg a_ty a_th a_tb_parameterCounts a_tb_entries t_analysed tb_functionCount tb_entryCount tb_lengths tb_fields ++ [(a_o, .inl (cJ, 1, .inr (.inl fo)))])) (g_kk [g_IO, g_IA, g_IS] out) := by
  refine ge_L (by decide) (Nat.le_of_ble_eq_true rfl) (fun p e s m below meth c A H locs ls hC hxt hH hN hW hl => ?_)
  have hC : g_C p s m meth c _ cL_code 9 (some .int) RL := hC
  have hx := hC.1
  have hb := hC.2.1
  have hl : lv_has ls 9 [(0, .ref a_t), (1, .int x1), (2, .int x2), (3, .int x3), (4, .int x4), (5, .int x5), (6, .int x6), (7, .ref a_o)] := hl
  refine lv_aload hx hb dL_code_0 (lv_at hl 7 rfl) ?_
  refine lv_iconst (v := 0) hx hb dL_code_2 (by decide) ?_
  refine lv_aload_n hx hb dL_code_3 rfl (lv_at hl 0 rfl) ?_
  refine lv_iload_n hx hb dL_code_4 rfl (lv_at hl 1 rfl) ?_
  refine lv_iload_n hx hb dL_code_5 rfl (lv_at hl 2 rfl) ?_
  refine lv_iload_n hx hb dL_code_6 rfl (lv_at hl 3 rfl) ?_
  refine lv_iload hx hb dL_code_7 (lv_at hl 4 rfl) ?_
  refine lv_iload hx hb dL_code_9 (lv_at hl 5 rfl) ?_
  refine lv_iload hx hb dL_code_11 (lv_at hl 6 rfl) ?_
  refine gs_callXL (ws' := fun u => w_X7_code cI cZ cJ a_t a_tb a_tb_lengths a_tb_fields a_ta a_tk a_tf a_tg a_ty a_th a_tb_parameterCounts a_tb_entries u.2.1 tb_functionCount tb_entryCount u.2.2.1 u.2.2.2 ++ [(a_o, .inl (cJ, 1, .inr (.inl fo)))]) hC hW hH (k_X7_code l tA dC dI cI cZ cJ hlt a_t a_tb a_tb_lengths a_tb_fields a_ta a_tk a_tf a_tg a_ty a_th a_tb_parameterCounts a_tb_entries x1 x2 x3 x4 x5 x6 t_analysed tb_functionCount tb_entryCount tb_lengths tb_fields _ hf) yk_X7_code lk_L_17 iv_X7_code ⟨rfl, rfl⟩ ⟨Nat.le_of_ble_eq_true rfl, Nat.le_of_ble_eq_true rfl⟩ hl.1 0 rfl rfl [0, 1, 2, 3] [4] [1, 2, 3, 4, 0] rfl rfl rfl rfl (by decide) rfl (fun _ => rfl) rfl rfl rfl (Nat.le_of_ble_eq_true rfl) dL_code_13 ⟨by decide, by decide⟩ (fun E ce q9 H locs ho hW hce hcv hcl => ?_) (fun u H locs ho hW => ?_)
  · rcases hE E ho with rfl | rfl | rfl
    · subst ho
      refine gs_catch hC [] ⟨0, 18, 21, 21⟩ [⟨0, 18, 25, 13⟩, ⟨0, 18, 29, 15⟩] hxt (fun z hz => absurd hz List.not_mem_nil) (by decide) (by decide) cl_L_21 hH (by decide) hce hcv hcl ?_
      refine lv_astore (lv' := [(8, .ref q9), (0, .ref a_t), (1, .int x1), (2, .int x2), (3, .int x3), (4, .int x4), (5, .int x5), (6, .int x6), (7, .ref a_o)]) hx hb dL_code_21 hl (by decide) rfl (fun ls hl => ?_)
      refine lv_iconst (v := 1) hx hb dL_code_23 (by decide) ?_
      exact gs_ri hC hW rfl dL_code_24
    · subst ho
      refine gs_catch hC [⟨0, 18, 21, 21⟩] ⟨0, 18, 25, 13⟩ [⟨0, 18, 29, 15⟩] hxt (fun z hz => ?_) (by decide) (by decide) cl_L_13 hH (by decide) hce hcv hcl ?_
      · obtain rfl : z = ⟨0, 18, 21, 21⟩ := by simpa using hz
        exact ⟨by decide, g_IO, cl_L_21, hN (g_IA, g_IO) (by simp)⟩
      · refine lv_astore (lv' := [(8, .ref q9), (0, .ref a_t), (1, .int x1), (2, .int x2), (3, .int x3), (4, .int x4), (5, .int x5), (6, .int x6), (7, .ref a_o)]) hx hb dL_code_25 hl (by decide) rfl (fun ls hl => ?_)
        refine lv_iconst (v := 2) hx hb dL_code_27 (by decide) ?_
        exact gs_ri hC hW rfl dL_code_28
    · subst ho
      refine gs_catch hC [⟨0, 18, 21, 21⟩, ⟨0, 18, 25, 13⟩] ⟨0, 18, 29, 15⟩ [] hxt (fun z hz => ?_) (by decide) (by decide) cl_L_15 hH (by decide) hce hcv hcl ?_
      · rcases (by simpa using hz : z = ⟨0, 18, 21, 21⟩ ∨ z = ⟨0, 18, 25, 13⟩) with rfl | rfl
        · exact ⟨by decide, g_IO, cl_L_21, hN (g_IS, g_IO) (by simp)⟩
        · exact ⟨by decide, g_IA, cl_L_13, hN (g_IS, g_IA) (by simp)⟩
      · refine lv_astore (lv' := [(8, .ref q9), (0, .ref a_t), (1, .int x1), (2, .int x2), (3, .int x3), (4, .int x4), (5, .int x5), (6, .int x6), (7, .ref a_o)]) hx hb dL_code_29 hl (by decide) rfl (fun ls hl => ?_)
        refine lv_iconst (v := 3) hx hb dL_code_31 (by decide) ?_
        exact gs_ri hC hW rfl dL_code_32
  · subst ho
    refine lv_i2l hx hb dL_code_16 rfl ?_
    refine gs_last (ws' := w_X7_code cI cZ cJ a_t a_tb a_tb_lengths a_tb_fields a_ta a_tk a_tf a_tg a_ty a_th a_tb_parameterCounts a_tb_entries u.2.1 tb_functionCount tb_entryCount u.2.2.1 u.2.2.2 ++ [(a_o, .inl (cJ, 1, .inr (.inl (vp_updL fo 0 u.1.toInt64))))]) hC hW 4 rfl rfl dL_code_17 (fun H locs hW => ?_)
    refine lv_goto (tgt := 33) hx hb dL_code_18 (by decide) ?_
    refine lv_iconst (v := 0) hx hb dL_code_33 (by decide) ?_
    exact gs_ri hC hW rfl dL_code_34

abbrev r_L_table : Room := { frames := 7, cells := 1, slots := 6, locals := 103 }
set_option maxHeartbeats 4000000 in
set_option maxRecDepth 100000 in
theorem k_L_table (l : Launch) (tA : Nat) (dC : Nat → ClassId) (dI : Nat → Nat → Nat) (cI cZ cJ : ClassId) (hlt : l.stackTraces = false) (a_t : Nat) (a_tb : Nat) (a_tb_entries : Nat) (a_ta : Nat) (a_tk : Nat) (a_tf : Nat) (a_tg : Nat) (a_ty : Nat) (a_th : Nat) (a_tb_parameterCounts : Nat) (a_tb_lengths : Nat) (a_tb_fields : Nat) (a_o : Nat) (x1 : Int32) (t_analysed : Int32) (tb_functionCount : Int32) (tb_entryCount : Int32) (tb_entries : Nat → Int32) (fo : Nat → Int64) (out : (Int32 × Int32 × Int32 × (Nat → Int32)) ⊕ String) (hf : f_X7_table x1 t_analysed tb_functionCount tb_entryCount tb_entries = some out) (hE : ∀ E, out = .inr E → E = g_IO ∨ E = g_IS) : g_ML l yL_table cL_table 4 (some .int) [(0, 9, 12, 21), (0, 9, 15, 15)] r_L_table tA dC dI cI cZ cJ [.ref a_t, .int x1, .ref a_o] (w_X7_table cI cZ cJ a_t a_tb a_tb_entries a_ta a_tk a_tf a_tg a_ty a_th a_tb_parameterCounts a_tb_lengths a_tb_fields t_analysed tb_functionCount tb_entryCount tb_entries ++ [(a_o, .inl (cJ, 1, .inr (.inl fo)))]) (g_wo out (fun u => w_X7_table cI cZ cJ a_t a_tb a_tb_entries a_ta a_tk a_tf a_tg a_ty a_th a_tb_parameterCounts a_tb_lengths a_tb_fields u.2.1 tb_functionCount u.2.2.1 u.2.2.2 ++ [(a_o, .inl (cJ, 1, .inr (.inl (vp_updL fo 0 u.1.toInt64))))]) (w_X7_table cI cZ cJ a_t a_tb a_tb_entries a_ta a_tk a_tf a_tg a_ty a_th a_tb_parameterCounts a_tb_lengths a_tb_fields t_analysed tb_functionCount tb_entryCount tb_entries ++ [(a_o, .inl (cJ, 1, .inr (.inl fo)))])) (g_kk [g_IO, g_IS] out) := by
  refine ge_L (by decide) (Nat.le_of_ble_eq_true rfl) (fun p e s m below meth c A H locs ls hC hxt hH hN hW hl => ?_)
  have hC : g_C p s m meth c _ cL_table 4 (some .int) RL := hC
  have hx := hC.1
  have hb := hC.2.1
  have hl : lv_has ls 4 [(0, .ref a_t), (1, .int x1), (2, .ref a_o)] := hl
  refine lv_aload_n hx hb dL_table_0 rfl (lv_at hl 2 rfl) ?_
  refine lv_iconst (v := 0) hx hb dL_table_1 (by decide) ?_
  refine lv_aload_n hx hb dL_table_2 rfl (lv_at hl 0 rfl) ?_
  refine lv_iload_n hx hb dL_table_3 rfl (lv_at hl 1 rfl) ?_
  refine gs_callXL (ws' := fun u => w_X7_table cI cZ cJ a_t a_tb a_tb_entries a_ta a_tk a_tf a_tg a_ty a_th a_tb_parameterCounts a_tb_lengths a_tb_fields u.2.1 tb_functionCount u.2.2.1 u.2.2.2 ++ [(a_o, .inl (cJ, 1, .inr (.inl fo)))]) hC hW hH (k_X7_table l tA dC dI cI cZ cJ hlt a_t a_tb a_tb_entries a_ta a_tk a_tf a_tg a_ty a_th a_tb_parameterCounts a_tb_lengths a_tb_fields x1 t_analysed tb_functionCount tb_entryCount tb_entries _ hf) yk_X7_table lk_L_23 iv_X7_table ⟨rfl, rfl⟩ ⟨Nat.le_of_ble_eq_true rfl, Nat.le_of_ble_eq_true rfl⟩ hl.1 0 rfl rfl [0, 1, 2] [3] [1, 2, 3, 0] rfl rfl rfl rfl (by decide) rfl (fun _ => rfl) rfl rfl rfl (Nat.le_of_ble_eq_true rfl) dL_table_4 ⟨by decide, by decide⟩ (fun E ce q9 H locs ho hW hce hcv hcl => ?_) (fun u H locs ho hW => ?_)
  · rcases hE E ho with rfl | rfl
    · subst ho
      refine gs_catch hC [] ⟨0, 9, 12, 21⟩ [⟨0, 9, 15, 15⟩] hxt (fun z hz => absurd hz List.not_mem_nil) (by decide) (by decide) cl_L_21 hH (by decide) hce hcv hcl ?_
      refine lv_astore_n (lv' := [(3, .ref q9), (0, .ref a_t), (1, .int x1), (2, .ref a_o)]) hx hb dL_table_12 rfl hl (by decide) rfl (fun ls hl => ?_)
      refine lv_iconst (v := 1) hx hb dL_table_13 (by decide) ?_
      exact gs_ri hC hW rfl dL_table_14
    · subst ho
      refine gs_catch hC [⟨0, 9, 12, 21⟩] ⟨0, 9, 15, 15⟩ [] hxt (fun z hz => ?_) (by decide) (by decide) cl_L_15 hH (by decide) hce hcv hcl ?_
      · obtain rfl : z = ⟨0, 9, 12, 21⟩ := by simpa using hz
        exact ⟨by decide, g_IO, cl_L_21, hN (g_IS, g_IO) (by simp)⟩
      · refine lv_astore_n (lv' := [(3, .ref q9), (0, .ref a_t), (1, .int x1), (2, .ref a_o)]) hx hb dL_table_15 rfl hl (by decide) rfl (fun ls hl => ?_)
        refine lv_iconst (v := 2) hx hb dL_table_16 (by decide) ?_
        exact gs_ri hC hW rfl dL_table_17
  · subst ho
    refine lv_i2l hx hb dL_table_7 rfl ?_
    refine gs_last (ws' := w_X7_table cI cZ cJ a_t a_tb a_tb_entries a_ta a_tk a_tf a_tg a_ty a_th a_tb_parameterCounts a_tb_lengths a_tb_fields u.2.1 tb_functionCount u.2.2.1 u.2.2.2 ++ [(a_o, .inl (cJ, 1, .inr (.inl (vp_updL fo 0 u.1.toInt64))))]) hC hW 3 rfl rfl dL_table_8 (fun H locs hW => ?_)
    refine lv_goto (tgt := 18) hx hb dL_table_9 (by decide) ?_
    refine lv_iconst (v := 0) hx hb dL_table_18 (by decide) ?_
    exact gs_ri hC hW rfl dL_table_19

abbrev r_L_analyse : Room := { frames := 7, cells := 1, slots := 6, locals := 167 }
set_option maxHeartbeats 4000000 in
set_option maxRecDepth 100000 in
theorem k_L_analyse (l : Launch) (tA : Nat) (dC : Nat → ClassId) (dI : Nat → Nat → Nat) (cI cZ cJ : ClassId) (hlt : l.stackTraces = false) (a_t : Nat) (a_tb : Nat) (a_tb_parameterCounts : Nat) (a_tb_lengths : Nat) (a_tb_fields : Nat) (a_tb_entries : Nat) (a_ta : Nat) (a_ta_parameterCounts : Nat) (a_ta_lengths : Nat) (a_ta_fields : Nat) (a_ta_entries : Nat) (a_tk : Nat) (a_tk_comeTo : Nat) (a_tk_any : Nat) (a_tk_numbers : Nat) (a_tf : Nat) (a_tfr : Nat) (a_tfr_any : Nat) (a_tfr_numbers : Nat) (a_tf_isWaiting : Nat) (a_tf_waiting : Nat) (a_tg : Nat) (a_ty : Nat) (a_th : Nat) (a_o : Nat) (N : Nat) (x1 : Int32) (t_analysed : Int32) (tb_functionCount : Int32) (tb_entryCount : Int32) (tb_parameterCounts : Nat → Int32) (tb_lengths : Nat → Int32) (tb_fields : Nat → Int32) (tb_entries : Nat → Int32) (ta_functionCount : Int32) (ta_entryCount : Int32) (ta_parameterCounts : Nat → Int32) (ta_lengths : Nat → Int32) (ta_fields : Nat → Int32) (ta_entries : Nat → Int32) (tk_comeTo : Nat → Int32) (tk_any : Nat → Int32) (tk_numbers : Nat → Int32) (tf_waitingCount : Int32) (tfr_any : Nat → Int32) (tfr_numbers : Nat → Int32) (tf_isWaiting : Nat → Int32) (tf_waiting : Nat → Int32) (fo : Nat → Int64) (out : (Int32 × Int32 × Int32 × Int32 × (Nat → Int32) × (Nat → Int32) × (Nat → Int32) × (Nat → Int32) × (Nat → Int32) × (Nat → Int32) × (Nat → Int32) × Int32 × (Nat → Int32) × (Nat → Int32) × (Nat → Int32) × (Nat → Int32)) ⊕ String) (hf : f_X7_analyse N x1 t_analysed tb_functionCount tb_entryCount tb_parameterCounts tb_lengths tb_fields tb_entries ta_functionCount ta_entryCount ta_parameterCounts ta_lengths ta_fields ta_entries tk_comeTo tk_any tk_numbers tf_waitingCount tfr_any tfr_numbers tf_isWaiting tf_waiting = some out) (hE : ∀ E, out = .inr E → E = g_IA ∨ E = g_IS) : g_ML l yL_analyse cL_analyse 4 (some .int) [(0, 9, 12, 13), (0, 9, 15, 15)] r_L_analyse tA dC dI cI cZ cJ [.ref a_t, .int x1, .ref a_o] (w_X7_analyse cI cZ cJ a_t a_tb a_tb_parameterCounts a_tb_lengths a_tb_fields a_tb_entries a_ta a_ta_parameterCounts a_ta_lengths a_ta_fields a_ta_entries a_tk a_tk_comeTo a_tk_any a_tk_numbers a_tf a_tfr a_tfr_any a_tfr_numbers a_tf_isWaiting a_tf_waiting a_tg a_ty a_th t_analysed tb_functionCount tb_entryCount tb_parameterCounts tb_lengths tb_fields tb_entries ta_functionCount ta_entryCount ta_parameterCounts ta_lengths ta_fields ta_entries tk_comeTo tk_any tk_numbers tf_waitingCount tfr_any tfr_numbers tf_isWaiting tf_waiting ++ [(a_o, .inl (cJ, 1, .inr (.inl fo)))]) (g_wo out (fun u => w_X7_analyse cI cZ cJ a_t a_tb a_tb_parameterCounts a_tb_lengths a_tb_fields a_tb_entries a_ta a_ta_parameterCounts a_ta_lengths a_ta_fields a_ta_entries a_tk a_tk_comeTo a_tk_any a_tk_numbers a_tf a_tfr a_tfr_any a_tfr_numbers a_tf_isWaiting a_tf_waiting a_tg a_ty a_th u.2.1 tb_functionCount tb_entryCount tb_parameterCounts tb_lengths tb_fields tb_entries u.2.2.1 u.2.2.2.1 u.2.2.2.2.1 u.2.2.2.2.2.1 u.2.2.2.2.2.2.1 u.2.2.2.2.2.2.2.1 u.2.2.2.2.2.2.2.2.1 u.2.2.2.2.2.2.2.2.2.1 u.2.2.2.2.2.2.2.2.2.2.1 u.2.2.2.2.2.2.2.2.2.2.2.1 u.2.2.2.2.2.2.2.2.2.2.2.2.1 u.2.2.2.2.2.2.2.2.2.2.2.2.2.1 u.2.2.2.2.2.2.2.2.2.2.2.2.2.2.1 u.2.2.2.2.2.2.2.2.2.2.2.2.2.2.2 ++ [(a_o, .inl (cJ, 1, .inr (.inl (vp_updL fo 0 u.1.toInt64))))]) (w_X7_analyse cI cZ cJ a_t a_tb a_tb_parameterCounts a_tb_lengths a_tb_fields a_tb_entries a_ta a_ta_parameterCounts a_ta_lengths a_ta_fields a_ta_entries a_tk a_tk_comeTo a_tk_any a_tk_numbers a_tf a_tfr a_tfr_any a_tfr_numbers a_tf_isWaiting a_tf_waiting a_tg a_ty a_th t_analysed tb_functionCount tb_entryCount tb_parameterCounts tb_lengths tb_fields tb_entries ta_functionCount ta_entryCount ta_parameterCounts ta_lengths ta_fields ta_entries tk_comeTo tk_any tk_numbers tf_waitingCount tfr_any tfr_numbers tf_isWaiting tf_waiting ++ [(a_o, .inl (cJ, 1, .inr (.inl fo)))])) (g_kk [g_IA, g_IS] out) := by
  refine ge_L (by decide) (Nat.le_of_ble_eq_true rfl) (fun p e s m below meth c A H locs ls hC hxt hH hN hW hl => ?_)
  have hC : g_C p s m meth c _ cL_analyse 4 (some .int) RL := hC
  have hx := hC.1
  have hb := hC.2.1
  have hl : lv_has ls 4 [(0, .ref a_t), (1, .int x1), (2, .ref a_o)] := hl
  refine lv_aload_n hx hb dL_analyse_0 rfl (lv_at hl 2 rfl) ?_
  refine lv_iconst (v := 0) hx hb dL_analyse_1 (by decide) ?_
  refine lv_aload_n hx hb dL_analyse_2 rfl (lv_at hl 0 rfl) ?_
  refine lv_iload_n hx hb dL_analyse_3 rfl (lv_at hl 1 rfl) ?_
  refine gs_callXL (ws' := fun u => w_X7_analyse cI cZ cJ a_t a_tb a_tb_parameterCounts a_tb_lengths a_tb_fields a_tb_entries a_ta a_ta_parameterCounts a_ta_lengths a_ta_fields a_ta_entries a_tk a_tk_comeTo a_tk_any a_tk_numbers a_tf a_tfr a_tfr_any a_tfr_numbers a_tf_isWaiting a_tf_waiting a_tg a_ty a_th u.2.1 tb_functionCount tb_entryCount tb_parameterCounts tb_lengths tb_fields tb_entries u.2.2.1 u.2.2.2.1 u.2.2.2.2.1 u.2.2.2.2.2.1 u.2.2.2.2.2.2.1 u.2.2.2.2.2.2.2.1 u.2.2.2.2.2.2.2.2.1 u.2.2.2.2.2.2.2.2.2.1 u.2.2.2.2.2.2.2.2.2.2.1 u.2.2.2.2.2.2.2.2.2.2.2.1 u.2.2.2.2.2.2.2.2.2.2.2.2.1 u.2.2.2.2.2.2.2.2.2.2.2.2.2.1 u.2.2.2.2.2.2.2.2.2.2.2.2.2.2.1 u.2.2.2.2.2.2.2.2.2.2.2.2.2.2.2 ++ [(a_o, .inl (cJ, 1, .inr (.inl fo)))]) hC hW hH (k_X7_analyse l tA dC dI cI cZ cJ hlt a_t a_tb a_tb_parameterCounts a_tb_lengths a_tb_fields a_tb_entries a_ta a_ta_parameterCounts a_ta_lengths a_ta_fields a_ta_entries a_tk a_tk_comeTo a_tk_any a_tk_numbers a_tf a_tfr a_tfr_any a_tfr_numbers a_tf_isWaiting a_tf_waiting a_tg a_ty a_th N x1 t_analysed tb_functionCount tb_entryCount tb_parameterCounts tb_lengths tb_fields tb_entries ta_functionCount ta_entryCount ta_parameterCounts ta_lengths ta_fields ta_entries tk_comeTo tk_any tk_numbers tf_waitingCount tfr_any tfr_numbers tf_isWaiting tf_waiting _ hf) yk_X7_analyse lk_L_26 iv_X7_analyse ⟨rfl, rfl⟩ ⟨Nat.le_of_ble_eq_true rfl, Nat.le_of_ble_eq_true rfl⟩ hl.1 0 rfl rfl [0, 1, 2, 3, 4, 5, 6, 7, 8, 9, 10, 11, 12, 13, 14, 15, 16, 17, 18, 19, 20, 21] [22] [1, 2, 3, 4, 5, 6, 7, 8, 9, 10, 11, 12, 13, 14, 15, 16, 17, 18, 19, 20, 21, 22, 0] rfl rfl rfl rfl (by decide) rfl (fun _ => rfl) rfl rfl rfl (Nat.le_of_ble_eq_true rfl) dL_analyse_4 ⟨by decide, by decide⟩ (fun E ce q9 H locs ho hW hce hcv hcl => ?_) (fun u H locs ho hW => ?_)
  · rcases hE E ho with rfl | rfl
    · subst ho
      refine gs_catch hC [] ⟨0, 9, 12, 13⟩ [⟨0, 9, 15, 15⟩] hxt (fun z hz => absurd hz List.not_mem_nil) (by decide) (by decide) cl_L_13 hH (by decide) hce hcv hcl ?_
      refine lv_astore_n (lv' := [(3, .ref q9), (0, .ref a_t), (1, .int x1), (2, .ref a_o)]) hx hb dL_analyse_12 rfl hl (by decide) rfl (fun ls hl => ?_)
      refine lv_iconst (v := 1) hx hb dL_analyse_13 (by decide) ?_
      exact gs_ri hC hW rfl dL_analyse_14
    · subst ho
      refine gs_catch hC [⟨0, 9, 12, 13⟩] ⟨0, 9, 15, 15⟩ [] hxt (fun z hz => ?_) (by decide) (by decide) cl_L_15 hH (by decide) hce hcv hcl ?_
      · obtain rfl : z = ⟨0, 9, 12, 13⟩ := by simpa using hz
        exact ⟨by decide, g_IA, cl_L_13, hN (g_IS, g_IA) (by simp)⟩
      · refine lv_astore_n (lv' := [(3, .ref q9), (0, .ref a_t), (1, .int x1), (2, .ref a_o)]) hx hb dL_analyse_15 rfl hl (by decide) rfl (fun ls hl => ?_)
        refine lv_iconst (v := 2) hx hb dL_analyse_16 (by decide) ?_
        exact gs_ri hC hW rfl dL_analyse_17
  · subst ho
    refine lv_i2l hx hb dL_analyse_7 rfl ?_
    refine gs_last (ws' := w_X7_analyse cI cZ cJ a_t a_tb a_tb_parameterCounts a_tb_lengths a_tb_fields a_tb_entries a_ta a_ta_parameterCounts a_ta_lengths a_ta_fields a_ta_entries a_tk a_tk_comeTo a_tk_any a_tk_numbers a_tf a_tfr a_tfr_any a_tfr_numbers a_tf_isWaiting a_tf_waiting a_tg a_ty a_th u.2.1 tb_functionCount tb_entryCount tb_parameterCounts tb_lengths tb_fields tb_entries u.2.2.1 u.2.2.2.1 u.2.2.2.2.1 u.2.2.2.2.2.1 u.2.2.2.2.2.2.1 u.2.2.2.2.2.2.2.1 u.2.2.2.2.2.2.2.2.1 u.2.2.2.2.2.2.2.2.2.1 u.2.2.2.2.2.2.2.2.2.2.1 u.2.2.2.2.2.2.2.2.2.2.2.1 u.2.2.2.2.2.2.2.2.2.2.2.2.1 u.2.2.2.2.2.2.2.2.2.2.2.2.2.1 u.2.2.2.2.2.2.2.2.2.2.2.2.2.2.1 u.2.2.2.2.2.2.2.2.2.2.2.2.2.2.2 ++ [(a_o, .inl (cJ, 1, .inr (.inl (vp_updL fo 0 u.1.toInt64))))]) hC hW 22 rfl rfl dL_analyse_8 (fun H locs hW => ?_)
    refine lv_goto (tgt := 18) hx hb dL_analyse_9 (by decide) ?_
    refine lv_iconst (v := 0) hx hb dL_analyse_18 (by decide) ?_
    exact gs_ri hC hW rfl dL_analyse_19

abbrev r_L_kind : Room := { frames := 8, cells := 1, slots := 6, locals := 129 }
set_option maxHeartbeats 4000000 in
set_option maxRecDepth 100000 in
theorem k_L_kind (l : Launch) (tA : Nat) (dC : Nat → ClassId) (dI : Nat → Nat → Nat) (cI cZ cJ : ClassId) (hlt : l.stackTraces = false) (a_t : Nat) (a_ta : Nat) (a_ta_lengths : Nat) (a_tk : Nat) (a_tk_comeTo : Nat) (a_tk_any : Nat) (a_tb : Nat) (a_tf : Nat) (a_tg : Nat) (a_ty : Nat) (a_th : Nat) (a_ta_parameterCounts : Nat) (a_ta_fields : Nat) (a_ta_entries : Nat) (a_tk_numbers : Nat) (a_o : Nat) (x1 : Int32) (x2 : Int32) (x3 : Int32) (t_analysed : Int32) (ta_functionCount : Int32) (ta_entryCount : Int32) (ta_lengths : Nat → Int32) (tk_comeTo : Nat → Int32) (tk_any : Nat → Int32) (fo : Nat → Int64) (out : (Int32) ⊕ String) (hf : f_X7_kind x1 x2 x3 t_analysed ta_functionCount ta_lengths tk_comeTo tk_any = some out) (hE : ∀ E, out = .inr E → E = g_IS ∨ E = g_IO) : g_ML l yL_kind cL_kind 6 (some .int) [(0, 12, 15, 15), (0, 12, 19, 21)] r_L_kind tA dC dI cI cZ cJ [.ref a_t, .int x1, .int x2, .int x3, .ref a_o] (w_X7_kind cI cZ cJ a_t a_ta a_ta_lengths a_tk a_tk_comeTo a_tk_any a_tb a_tf a_tg a_ty a_th a_ta_parameterCounts a_ta_fields a_ta_entries a_tk_numbers t_analysed ta_functionCount ta_entryCount ta_lengths tk_comeTo tk_any ++ [(a_o, .inl (cJ, 1, .inr (.inl fo)))]) (g_wo out (fun u => w_X7_kind cI cZ cJ a_t a_ta a_ta_lengths a_tk a_tk_comeTo a_tk_any a_tb a_tf a_tg a_ty a_th a_ta_parameterCounts a_ta_fields a_ta_entries a_tk_numbers t_analysed ta_functionCount ta_entryCount ta_lengths tk_comeTo tk_any ++ [(a_o, .inl (cJ, 1, .inr (.inl (vp_updL fo 0 u.toInt64))))]) (w_X7_kind cI cZ cJ a_t a_ta a_ta_lengths a_tk a_tk_comeTo a_tk_any a_tb a_tf a_tg a_ty a_th a_ta_parameterCounts a_ta_fields a_ta_entries a_tk_numbers t_analysed ta_functionCount ta_entryCount ta_lengths tk_comeTo tk_any ++ [(a_o, .inl (cJ, 1, .inr (.inl fo)))])) (g_kk [g_IS, g_IO] out) := by
  refine ge_L (by decide) (Nat.le_of_ble_eq_true rfl) (fun p e s m below meth c A H locs ls hC hxt hH hN hW hl => ?_)
  have hC : g_C p s m meth c _ cL_kind 6 (some .int) RL := hC
  have hx := hC.1
  have hb := hC.2.1
  have hl : lv_has ls 6 [(0, .ref a_t), (1, .int x1), (2, .int x2), (3, .int x3), (4, .ref a_o)] := hl
  refine lv_aload hx hb dL_kind_0 (lv_at hl 4 rfl) ?_
  refine lv_iconst (v := 0) hx hb dL_kind_2 (by decide) ?_
  refine lv_aload_n hx hb dL_kind_3 rfl (lv_at hl 0 rfl) ?_
  refine lv_iload_n hx hb dL_kind_4 rfl (lv_at hl 1 rfl) ?_
  refine lv_iload_n hx hb dL_kind_5 rfl (lv_at hl 2 rfl) ?_
  refine lv_iload_n hx hb dL_kind_6 rfl (lv_at hl 3 rfl) ?_
  refine gs_callXL (ws' := fun u => w_X7_kind cI cZ cJ a_t a_ta a_ta_lengths a_tk a_tk_comeTo a_tk_any a_tb a_tf a_tg a_ty a_th a_ta_parameterCounts a_ta_fields a_ta_entries a_tk_numbers t_analysed ta_functionCount ta_entryCount ta_lengths tk_comeTo tk_any ++ [(a_o, .inl (cJ, 1, .inr (.inl fo)))]) hC hW hH (k_X7_kind l tA dC dI cI cZ cJ hlt a_t a_ta a_ta_lengths a_tk a_tk_comeTo a_tk_any a_tb a_tf a_tg a_ty a_th a_ta_parameterCounts a_ta_fields a_ta_entries a_tk_numbers x1 x2 x3 t_analysed ta_functionCount ta_entryCount ta_lengths tk_comeTo tk_any _ hf) yk_X7_kind lk_L_29 iv_X7_kind ⟨rfl, rfl⟩ ⟨Nat.le_of_ble_eq_true rfl, Nat.le_of_ble_eq_true rfl⟩ hl.1 0 rfl rfl [0, 1, 2, 3, 4, 5] [6] [1, 2, 3, 4, 5, 6, 0] rfl rfl rfl rfl (by decide) rfl (fun _ => rfl) rfl rfl rfl (Nat.le_of_ble_eq_true rfl) dL_kind_7 ⟨by decide, by decide⟩ (fun E ce q9 H locs ho hW hce hcv hcl => ?_) (fun u H locs ho hW => ?_)
  · rcases hE E ho with rfl | rfl
    · subst ho
      refine gs_catch hC [] ⟨0, 12, 15, 15⟩ [⟨0, 12, 19, 21⟩] hxt (fun z hz => absurd hz List.not_mem_nil) (by decide) (by decide) cl_L_15 hH (by decide) hce hcv hcl ?_
      refine lv_astore (lv' := [(5, .ref q9), (0, .ref a_t), (1, .int x1), (2, .int x2), (3, .int x3), (4, .ref a_o)]) hx hb dL_kind_15 hl (by decide) rfl (fun ls hl => ?_)
      refine lv_iconst (v := 1) hx hb dL_kind_17 (by decide) ?_
      exact gs_ri hC hW rfl dL_kind_18
    · subst ho
      refine gs_catch hC [⟨0, 12, 15, 15⟩] ⟨0, 12, 19, 21⟩ [] hxt (fun z hz => ?_) (by decide) (by decide) cl_L_21 hH (by decide) hce hcv hcl ?_
      · obtain rfl : z = ⟨0, 12, 15, 15⟩ := by simpa using hz
        exact ⟨by decide, g_IS, cl_L_15, hN (g_IO, g_IS) (by simp)⟩
      · refine lv_astore (lv' := [(5, .ref q9), (0, .ref a_t), (1, .int x1), (2, .int x2), (3, .int x3), (4, .ref a_o)]) hx hb dL_kind_19 hl (by decide) rfl (fun ls hl => ?_)
        refine lv_iconst (v := 2) hx hb dL_kind_21 (by decide) ?_
        exact gs_ri hC hW rfl dL_kind_22
  · subst ho
    refine lv_i2l hx hb dL_kind_10 rfl ?_
    refine gs_last (ws' := w_X7_kind cI cZ cJ a_t a_ta a_ta_lengths a_tk a_tk_comeTo a_tk_any a_tb a_tf a_tg a_ty a_th a_ta_parameterCounts a_ta_fields a_ta_entries a_tk_numbers t_analysed ta_functionCount ta_entryCount ta_lengths tk_comeTo tk_any ++ [(a_o, .inl (cJ, 1, .inr (.inl (vp_updL fo 0 u.toInt64))))]) hC hW 6 rfl rfl dL_kind_11 (fun H locs hW => ?_)
    refine lv_goto (tgt := 23) hx hb dL_kind_12 (by decide) ?_
    refine lv_iconst (v := 0) hx hb dL_kind_23 (by decide) ?_
    exact gs_ri hC hW rfl dL_kind_24

abbrev r_L_number : Room := { frames := 8, cells := 1, slots := 6, locals := 129 }
set_option maxHeartbeats 4000000 in
set_option maxRecDepth 100000 in
theorem k_L_number (l : Launch) (tA : Nat) (dC : Nat → ClassId) (dI : Nat → Nat → Nat) (cI cZ cJ : ClassId) (hlt : l.stackTraces = false) (a_t : Nat) (a_ta : Nat) (a_ta_lengths : Nat) (a_tk : Nat) (a_tk_comeTo : Nat) (a_tk_any : Nat) (a_tk_numbers : Nat) (a_tb : Nat) (a_tf : Nat) (a_tg : Nat) (a_ty : Nat) (a_th : Nat) (a_ta_parameterCounts : Nat) (a_ta_fields : Nat) (a_ta_entries : Nat) (a_o : Nat) (x1 : Int32) (x2 : Int32) (x3 : Int32) (t_analysed : Int32) (ta_functionCount : Int32) (ta_entryCount : Int32) (ta_lengths : Nat → Int32) (tk_comeTo : Nat → Int32) (tk_any : Nat → Int32) (tk_numbers : Nat → Int32) (fo : Nat → Int64) (out : (Int32) ⊕ String) (hf : f_X7_number x1 x2 x3 t_analysed ta_functionCount ta_lengths tk_comeTo tk_any tk_numbers = some out) (hE : ∀ E, out = .inr E → E = g_IS ∨ E = g_IO) : g_ML l yL_number cL_number 6 (some .int) [(0, 12, 15, 15), (0, 12, 19, 21)] r_L_number tA dC dI cI cZ cJ [.ref a_t, .int x1, .int x2, .int x3, .ref a_o] (w_X7_number cI cZ cJ a_t a_ta a_ta_lengths a_tk a_tk_comeTo a_tk_any a_tk_numbers a_tb a_tf a_tg a_ty a_th a_ta_parameterCounts a_ta_fields a_ta_entries t_analysed ta_functionCount ta_entryCount ta_lengths tk_comeTo tk_any tk_numbers ++ [(a_o, .inl (cJ, 1, .inr (.inl fo)))]) (g_wo out (fun u => w_X7_number cI cZ cJ a_t a_ta a_ta_lengths a_tk a_tk_comeTo a_tk_any a_tk_numbers a_tb a_tf a_tg a_ty a_th a_ta_parameterCounts a_ta_fields a_ta_entries t_analysed ta_functionCount ta_entryCount ta_lengths tk_comeTo tk_any tk_numbers ++ [(a_o, .inl (cJ, 1, .inr (.inl (vp_updL fo 0 u.toInt64))))]) (w_X7_number cI cZ cJ a_t a_ta a_ta_lengths a_tk a_tk_comeTo a_tk_any a_tk_numbers a_tb a_tf a_tg a_ty a_th a_ta_parameterCounts a_ta_fields a_ta_entries t_analysed ta_functionCount ta_entryCount ta_lengths tk_comeTo tk_any tk_numbers ++ [(a_o, .inl (cJ, 1, .inr (.inl fo)))])) (g_kk [g_IS, g_IO] out) := by
  refine ge_L (by decide) (Nat.le_of_ble_eq_true rfl) (fun p e s m below meth c A H locs ls hC hxt hH hN hW hl => ?_)
  have hC : g_C p s m meth c _ cL_number 6 (some .int) RL := hC
  have hx := hC.1
  have hb := hC.2.1
  have hl : lv_has ls 6 [(0, .ref a_t), (1, .int x1), (2, .int x2), (3, .int x3), (4, .ref a_o)] := hl
  refine lv_aload hx hb dL_number_0 (lv_at hl 4 rfl) ?_
  refine lv_iconst (v := 0) hx hb dL_number_2 (by decide) ?_
  refine lv_aload_n hx hb dL_number_3 rfl (lv_at hl 0 rfl) ?_
  refine lv_iload_n hx hb dL_number_4 rfl (lv_at hl 1 rfl) ?_
  refine lv_iload_n hx hb dL_number_5 rfl (lv_at hl 2 rfl) ?_
  refine lv_iload_n hx hb dL_number_6 rfl (lv_at hl 3 rfl) ?_
  refine gs_callXL (ws' := fun u => w_X7_number cI cZ cJ a_t a_ta a_ta_lengths a_tk a_tk_comeTo a_tk_any a_tk_numbers a_tb a_tf a_tg a_ty a_th a_ta_parameterCounts a_ta_fields a_ta_entries t_analysed ta_functionCount ta_entryCount ta_lengths tk_comeTo tk_any tk_numbers ++ [(a_o, .inl (cJ, 1, .inr (.inl fo)))]) hC hW hH (k_X7_number l tA dC dI cI cZ cJ hlt a_t a_ta a_ta_lengths a_tk a_tk_comeTo a_tk_any a_tk_numbers a_tb a_tf a_tg a_ty a_th a_ta_parameterCounts a_ta_fields a_ta_entries x1 x2 x3 t_analysed ta_functionCount ta_entryCount ta_lengths tk_comeTo tk_any tk_numbers _ hf) yk_X7_number lk_L_33 iv_X7_number ⟨rfl, rfl⟩ ⟨Nat.le_of_ble_eq_true rfl, Nat.le_of_ble_eq_true rfl⟩ hl.1 0 rfl rfl [0, 1, 2, 3, 4, 5, 6] [7] [1, 2, 3, 4, 5, 6, 7, 0] rfl rfl rfl rfl (by decide) rfl (fun _ => rfl) rfl rfl rfl (Nat.le_of_ble_eq_true rfl) dL_number_7 ⟨by decide, by decide⟩ (fun E ce q9 H locs ho hW hce hcv hcl => ?_) (fun u H locs ho hW => ?_)
  · rcases hE E ho with rfl | rfl
    · subst ho
      refine gs_catch hC [] ⟨0, 12, 15, 15⟩ [⟨0, 12, 19, 21⟩] hxt (fun z hz => absurd hz List.not_mem_nil) (by decide) (by decide) cl_L_15 hH (by decide) hce hcv hcl ?_
      refine lv_astore (lv' := [(5, .ref q9), (0, .ref a_t), (1, .int x1), (2, .int x2), (3, .int x3), (4, .ref a_o)]) hx hb dL_number_15 hl (by decide) rfl (fun ls hl => ?_)
      refine lv_iconst (v := 1) hx hb dL_number_17 (by decide) ?_
      exact gs_ri hC hW rfl dL_number_18
    · subst ho
      refine gs_catch hC [⟨0, 12, 15, 15⟩] ⟨0, 12, 19, 21⟩ [] hxt (fun z hz => ?_) (by decide) (by decide) cl_L_21 hH (by decide) hce hcv hcl ?_
      · obtain rfl : z = ⟨0, 12, 15, 15⟩ := by simpa using hz
        exact ⟨by decide, g_IS, cl_L_15, hN (g_IO, g_IS) (by simp)⟩
      · refine lv_astore (lv' := [(5, .ref q9), (0, .ref a_t), (1, .int x1), (2, .int x2), (3, .int x3), (4, .ref a_o)]) hx hb dL_number_19 hl (by decide) rfl (fun ls hl => ?_)
        refine lv_iconst (v := 2) hx hb dL_number_21 (by decide) ?_
        exact gs_ri hC hW rfl dL_number_22
  · subst ho
    refine lv_i2l hx hb dL_number_10 rfl ?_
    refine gs_last (ws' := w_X7_number cI cZ cJ a_t a_ta a_ta_lengths a_tk a_tk_comeTo a_tk_any a_tk_numbers a_tb a_tf a_tg a_ty a_th a_ta_parameterCounts a_ta_fields a_ta_entries t_analysed ta_functionCount ta_entryCount ta_lengths tk_comeTo tk_any tk_numbers ++ [(a_o, .inl (cJ, 1, .inr (.inl (vp_updL fo 0 u.toInt64))))]) hC hW 7 rfl rfl dL_number_11 (fun H locs hW => ?_)
    refine lv_goto (tgt := 23) hx hb dL_number_12 (by decide) ?_
    refine lv_iconst (v := 0) hx hb dL_number_23 (by decide) ?_
    exact gs_ri hC hW rfl dL_number_24

abbrev r_L_statement : Room := { frames := 7, cells := 1, slots := 6, locals := 105 }
set_option maxHeartbeats 4000000 in
set_option maxRecDepth 100000 in
theorem k_L_statement (l : Launch) (tA : Nat) (dC : Nat → ClassId) (dI : Nat → Nat → Nat) (cI cZ cJ : ClassId) (hlt : l.stackTraces = false) (a_t : Nat) (a_ta : Nat) (a_ta_lengths : Nat) (a_ta_fields : Nat) (a_tb : Nat) (a_tk : Nat) (a_tf : Nat) (a_tg : Nat) (a_ty : Nat) (a_th : Nat) (a_ta_parameterCounts : Nat) (a_ta_entries : Nat) (a_o : Nat) (x1 : Int32) (x2 : Int32) (x3 : Int32) (t_analysed : Int32) (ta_functionCount : Int32) (ta_entryCount : Int32) (ta_lengths : Nat → Int32) (ta_fields : Nat → Int32) (fo : Nat → Int64) (out : (Int32) ⊕ String) (hf : f_X7_statement x1 x2 x3 t_analysed ta_functionCount ta_lengths ta_fields = some out) (hE : ∀ E, out = .inr E → E = g_IS ∨ E = g_IO ∨ E = g_IA) : g_ML l yL_statement cL_statement 6 (some .int) [(0, 12, 15, 15), (0, 12, 19, 21), (0, 12, 23, 13)] r_L_statement tA dC dI cI cZ cJ [.ref a_t, .int x1, .int x2, .int x3, .ref a_o] (w_X7_statement cI cZ cJ a_t a_ta a_ta_lengths a_ta_fields a_tb a_tk a_tf a_tg a_ty a_th a_ta_parameterCounts a_ta_entries t_analysed ta_functionCount ta_entryCount ta_lengths ta_fields ++ [(a_o, .inl (cJ, 1, .inr (.inl fo)))]) (g_wo out (fun u => w_X7_statement cI cZ cJ a_t a_ta a_ta_lengths a_ta_fields a_tb a_tk a_tf a_tg a_ty a_th a_ta_parameterCounts a_ta_entries t_analysed ta_functionCount ta_entryCount ta_lengths ta_fields ++ [(a_o, .inl (cJ, 1, .inr (.inl (vp_updL fo 0 u.toInt64))))]) (w_X7_statement cI cZ cJ a_t a_ta a_ta_lengths a_ta_fields a_tb a_tk a_tf a_tg a_ty a_th a_ta_parameterCounts a_ta_entries t_analysed ta_functionCount ta_entryCount ta_lengths ta_fields ++ [(a_o, .inl (cJ, 1, .inr (.inl fo)))])) (g_kk [g_IS, g_IO, g_IA] out) := by
  refine ge_L (by decide) (Nat.le_of_ble_eq_true rfl) (fun p e s m below meth c A H locs ls hC hxt hH hN hW hl => ?_)
  have hC : g_C p s m meth c _ cL_statement 6 (some .int) RL := hC
  have hx := hC.1
  have hb := hC.2.1
  have hl : lv_has ls 6 [(0, .ref a_t), (1, .int x1), (2, .int x2), (3, .int x3), (4, .ref a_o)] := hl
  refine lv_aload hx hb dL_statement_0 (lv_at hl 4 rfl) ?_
  refine lv_iconst (v := 0) hx hb dL_statement_2 (by decide) ?_
  refine lv_aload_n hx hb dL_statement_3 rfl (lv_at hl 0 rfl) ?_
  refine lv_iload_n hx hb dL_statement_4 rfl (lv_at hl 1 rfl) ?_
  refine lv_iload_n hx hb dL_statement_5 rfl (lv_at hl 2 rfl) ?_
  refine lv_iload_n hx hb dL_statement_6 rfl (lv_at hl 3 rfl) ?_
  refine gs_callXL (ws' := fun u => w_X7_statement cI cZ cJ a_t a_ta a_ta_lengths a_ta_fields a_tb a_tk a_tf a_tg a_ty a_th a_ta_parameterCounts a_ta_entries t_analysed ta_functionCount ta_entryCount ta_lengths ta_fields ++ [(a_o, .inl (cJ, 1, .inr (.inl fo)))]) hC hW hH (k_X7_statement l tA dC dI cI cZ cJ hlt a_t a_ta a_ta_lengths a_ta_fields a_tb a_tk a_tf a_tg a_ty a_th a_ta_parameterCounts a_ta_entries x1 x2 x3 t_analysed ta_functionCount ta_entryCount ta_lengths ta_fields _ hf) yk_X7_statement lk_L_36 iv_X7_statement ⟨rfl, rfl⟩ ⟨Nat.le_of_ble_eq_true rfl, Nat.le_of_ble_eq_true rfl⟩ hl.1 0 rfl rfl [0, 1, 2, 3] [4] [1, 2, 3, 4, 0] rfl rfl rfl rfl (by decide) rfl (fun _ => rfl) rfl rfl rfl (Nat.le_of_ble_eq_true rfl) dL_statement_7 ⟨by decide, by decide⟩ (fun E ce q9 H locs ho hW hce hcv hcl => ?_) (fun u H locs ho hW => ?_)
  · rcases hE E ho with rfl | rfl | rfl
    · subst ho
      refine gs_catch hC [] ⟨0, 12, 15, 15⟩ [⟨0, 12, 19, 21⟩, ⟨0, 12, 23, 13⟩] hxt (fun z hz => absurd hz List.not_mem_nil) (by decide) (by decide) cl_L_15 hH (by decide) hce hcv hcl ?_
      refine lv_astore (lv' := [(5, .ref q9), (0, .ref a_t), (1, .int x1), (2, .int x2), (3, .int x3), (4, .ref a_o)]) hx hb dL_statement_15 hl (by decide) rfl (fun ls hl => ?_)
      refine lv_iconst (v := 1) hx hb dL_statement_17 (by decide) ?_
      exact gs_ri hC hW rfl dL_statement_18
    · subst ho
      refine gs_catch hC [⟨0, 12, 15, 15⟩] ⟨0, 12, 19, 21⟩ [⟨0, 12, 23, 13⟩] hxt (fun z hz => ?_) (by decide) (by decide) cl_L_21 hH (by decide) hce hcv hcl ?_
      · obtain rfl : z = ⟨0, 12, 15, 15⟩ := by simpa using hz
        exact ⟨by decide, g_IS, cl_L_15, hN (g_IO, g_IS) (by simp)⟩
      · refine lv_astore (lv' := [(5, .ref q9), (0, .ref a_t), (1, .int x1), (2, .int x2), (3, .int x3), (4, .ref a_o)]) hx hb dL_statement_19 hl (by decide) rfl (fun ls hl => ?_)
        refine lv_iconst (v := 2) hx hb dL_statement_21 (by decide) ?_
        exact gs_ri hC hW rfl dL_statement_22
    · subst ho
      refine gs_catch hC [⟨0, 12, 15, 15⟩, ⟨0, 12, 19, 21⟩] ⟨0, 12, 23, 13⟩ [] hxt (fun z hz => ?_) (by decide) (by decide) cl_L_13 hH (by decide) hce hcv hcl ?_
      · rcases (by simpa using hz : z = ⟨0, 12, 15, 15⟩ ∨ z = ⟨0, 12, 19, 21⟩) with rfl | rfl
        · exact ⟨by decide, g_IS, cl_L_15, hN (g_IA, g_IS) (by simp)⟩
        · exact ⟨by decide, g_IO, cl_L_21, hN (g_IA, g_IO) (by simp)⟩
      · refine lv_astore (lv' := [(5, .ref q9), (0, .ref a_t), (1, .int x1), (2, .int x2), (3, .int x3), (4, .ref a_o)]) hx hb dL_statement_23 hl (by decide) rfl (fun ls hl => ?_)
        refine lv_iconst (v := 3) hx hb dL_statement_25 (by decide) ?_
        exact gs_ri hC hW rfl dL_statement_26
  · subst ho
    refine lv_i2l hx hb dL_statement_10 rfl ?_
    refine gs_last (ws' := w_X7_statement cI cZ cJ a_t a_ta a_ta_lengths a_ta_fields a_tb a_tk a_tf a_tg a_ty a_th a_ta_parameterCounts a_ta_entries t_analysed ta_functionCount ta_entryCount ta_lengths ta_fields ++ [(a_o, .inl (cJ, 1, .inr (.inl (vp_updL fo 0 u.toInt64))))]) hC hW 4 rfl rfl dL_statement_11 (fun H locs hW => ?_)
    refine lv_goto (tgt := 27) hx hb dL_statement_12 (by decide) ?_
    refine lv_iconst (v := 0) hx hb dL_statement_27 (by decide) ?_
    exact gs_ri hC hW rfl dL_statement_28

abbrev r_L_run : Room := { frames := 7, cells := 1, slots := 6, locals := 168 }
set_option maxHeartbeats 4000000 in
set_option maxRecDepth 100000 in
theorem k_L_run (l : Launch) (tA : Nat) (dC : Nat → ClassId) (dI : Nat → Nat → Nat) (cI cZ cJ : ClassId) (hlt : l.stackTraces = false) (a_t : Nat) (a_tb : Nat) (a_tb_parameterCounts : Nat) (a_tb_lengths : Nat) (a_tb_fields : Nat) (a_tb_entries : Nat) (a_ta : Nat) (a_ta_parameterCounts : Nat) (a_ta_lengths : Nat) (a_ta_fields : Nat) (a_ta_entries : Nat) (a_ty : Nat) (a_ty_outputValues : Nat) (a_ty_callCounts : Nat) (a_ty_latestValues : Nat) (a_ty_differing : Nat) (a_th : Nat) (a_th_inputs : Nat) (a_th_openFunctions : Nat) (a_th_openStatements : Nat) (a_th_registers : Nat) (a_tk : Nat) (a_tf : Nat) (a_tg : Nat) (a_old : Nat) (a_o : Nat) (N : Nat) (x1 : Int32) (x2 : Int32) (t_analysed : Int32) (tb_functionCount : Int32) (tb_entryCount : Int32) (tb_parameterCounts : Nat → Int32) (tb_lengths : Nat → Int32) (tb_fields : Nat → Int32) (tb_entries : Nat → Int32) (ta_functionCount : Int32) (ta_entryCount : Int32) (ta_parameterCounts : Nat → Int32) (ta_lengths : Nat → Int32) (ta_fields : Nat → Int32) (ta_entries : Nat → Int32) (ty_doneCount : Int32) (ty_outputCount : Int32) (ty_outputValues : Nat → Int32) (ty_callCounts : Nat → Int32) (ty_latestValues : Nat → Int32) (ty_differing : Nat → Int32) (th_inputCount : Int32) (th_inputsRead : Int32) (th_openCount : Int32) (th_inputs : Nat → Int32) (th_openFunctions : Nat → Int32) (th_openStatements : Nat → Int32) (th_registers : Nat → Int32) (fo : Nat → Int64) (out : (Int32 × Int32 × Int32 × (Nat → Int32) × (Nat → Int32) × (Nat → Int32) × (Nat → Int32) × Int32 × Int32 × (Nat → Int32) × (Nat → Int32) × (Nat → Int32)) ⊕ String) (hf : f_X7_run N x1 x2 t_analysed tb_functionCount tb_entryCount tb_parameterCounts tb_lengths tb_fields tb_entries ta_entryCount ta_parameterCounts ta_lengths ta_fields ta_entries ty_doneCount ty_outputCount ty_outputValues ty_callCounts ty_latestValues ty_differing th_inputCount th_inputsRead th_openCount th_inputs th_openFunctions th_openStatements th_registers = some out) (hE : ∀ E, out = .inr E → E = g_IA ∨ E = g_IS) : g_ML l yL_run cL_run 5 (some .int) [(0, 10, 13, 13), (0, 10, 17, 15)] r_L_run tA dC dI cI cZ cJ [.ref a_t, .int x1, .int x2, .ref a_o] (w_X7_run cI cZ cJ a_t a_tb a_tb_parameterCounts a_tb_lengths a_tb_fields a_tb_entries a_ta a_ta_parameterCounts a_ta_lengths a_ta_fields a_ta_entries a_ty a_ty_outputValues a_ty_callCounts a_ty_latestValues a_ty_differing a_th a_th_inputs a_th_openFunctions a_th_openStatements a_th_registers a_tk a_tf a_tg a_old t_analysed tb_functionCount tb_entryCount tb_parameterCounts tb_lengths tb_fields tb_entries ta_functionCount ta_entryCount ta_parameterCounts ta_lengths ta_fields ta_entries ty_doneCount ty_outputCount ty_outputValues ty_callCounts ty_latestValues ty_differing th_inputCount th_inputsRead th_openCount th_inputs th_openFunctions th_openStatements th_registers ++ [(a_o, .inl (cJ, 1, .inr (.inl fo)))]) (g_wo out (fun u => w_X7_run cI cZ cJ a_t a_tb a_tb_parameterCounts a_tb_lengths a_tb_fields a_tb_entries a_ta a_ta_parameterCounts a_ta_lengths a_ta_fields a_ta_entries a_ty a_ty_outputValues a_ty_callCounts a_ty_latestValues a_ty_differing a_th a_th_inputs a_th_openFunctions a_th_openStatements a_th_registers a_tk a_tf a_tg (if x1 = 0 then a_tb else a_ta) t_analysed tb_functionCount tb_entryCount tb_parameterCounts tb_lengths tb_fields tb_entries ta_functionCount ta_entryCount ta_parameterCounts ta_lengths ta_fields ta_entries u.2.1 u.2.2.1 u.2.2.2.1 u.2.2.2.2.1 u.2.2.2.2.2.1 u.2.2.2.2.2.2.1 th_inputCount u.2.2.2.2.2.2.2.1 u.2.2.2.2.2.2.2.2.1 th_inputs u.2.2.2.2.2.2.2.2.2.1 u.2.2.2.2.2.2.2.2.2.2.1 u.2.2.2.2.2.2.2.2.2.2.2 ++ [(a_o, .inl (cJ, 1, .inr (.inl (vp_updL fo 0 u.1.toInt64))))]) (w_X7_run cI cZ cJ a_t a_tb a_tb_parameterCounts a_tb_lengths a_tb_fields a_tb_entries a_ta a_ta_parameterCounts a_ta_lengths a_ta_fields a_ta_entries a_ty a_ty_outputValues a_ty_callCounts a_ty_latestValues a_ty_differing a_th a_th_inputs a_th_openFunctions a_th_openStatements a_th_registers a_tk a_tf a_tg a_old t_analysed tb_functionCount tb_entryCount tb_parameterCounts tb_lengths tb_fields tb_entries ta_functionCount ta_entryCount ta_parameterCounts ta_lengths ta_fields ta_entries ty_doneCount ty_outputCount ty_outputValues ty_callCounts ty_latestValues ty_differing th_inputCount th_inputsRead th_openCount th_inputs th_openFunctions th_openStatements th_registers ++ [(a_o, .inl (cJ, 1, .inr (.inl fo)))])) (g_kk [g_IA, g_IS] out) := by
  refine ge_L (by decide) (Nat.le_of_ble_eq_true rfl) (fun p e s m below meth c A H locs ls hC hxt hH hN hW hl => ?_)
  have hC : g_C p s m meth c _ cL_run 5 (some .int) RL := hC
  have hx := hC.1
  have hb := hC.2.1
  have hl : lv_has ls 5 [(0, .ref a_t), (1, .int x1), (2, .int x2), (3, .ref a_o)] := hl
  refine lv_aload_n hx hb dL_run_0 rfl (lv_at hl 3 rfl) ?_
  refine lv_iconst (v := 0) hx hb dL_run_1 (by decide) ?_
  refine lv_aload_n hx hb dL_run_2 rfl (lv_at hl 0 rfl) ?_
  refine lv_iload_n hx hb dL_run_3 rfl (lv_at hl 1 rfl) ?_
  refine lv_iload_n hx hb dL_run_4 rfl (lv_at hl 2 rfl) ?_
  refine gs_callXL (ws' := fun u => w_X7_run cI cZ cJ a_t a_tb a_tb_parameterCounts a_tb_lengths a_tb_fields a_tb_entries a_ta a_ta_parameterCounts a_ta_lengths a_ta_fields a_ta_entries a_ty a_ty_outputValues a_ty_callCounts a_ty_latestValues a_ty_differing a_th a_th_inputs a_th_openFunctions a_th_openStatements a_th_registers a_tk a_tf a_tg (if x1 = 0 then a_tb else a_ta) t_analysed tb_functionCount tb_entryCount tb_parameterCounts tb_lengths tb_fields tb_entries ta_functionCount ta_entryCount ta_parameterCounts ta_lengths ta_fields ta_entries u.2.1 u.2.2.1 u.2.2.2.1 u.2.2.2.2.1 u.2.2.2.2.2.1 u.2.2.2.2.2.2.1 th_inputCount u.2.2.2.2.2.2.2.1 u.2.2.2.2.2.2.2.2.1 th_inputs u.2.2.2.2.2.2.2.2.2.1 u.2.2.2.2.2.2.2.2.2.2.1 u.2.2.2.2.2.2.2.2.2.2.2 ++ [(a_o, .inl (cJ, 1, .inr (.inl fo)))]) hC hW hH (k_X7_run l tA dC dI cI cZ cJ hlt a_t a_tb a_tb_parameterCounts a_tb_lengths a_tb_fields a_tb_entries a_ta a_ta_parameterCounts a_ta_lengths a_ta_fields a_ta_entries a_ty a_ty_outputValues a_ty_callCounts a_ty_latestValues a_ty_differing a_th a_th_inputs a_th_openFunctions a_th_openStatements a_th_registers a_tk a_tf a_tg a_old N x1 x2 t_analysed tb_functionCount tb_entryCount tb_parameterCounts tb_lengths tb_fields tb_entries ta_functionCount ta_entryCount ta_parameterCounts ta_lengths ta_fields ta_entries ty_doneCount ty_outputCount ty_outputValues ty_callCounts ty_latestValues ty_differing th_inputCount th_inputsRead th_openCount th_inputs th_openFunctions th_openStatements th_registers _ hf) yk_X7_run lk_L_39 iv_X7_run ⟨rfl, rfl⟩ ⟨Nat.le_of_ble_eq_true rfl, Nat.le_of_ble_eq_true rfl⟩ hl.1 0 rfl rfl [0, 1, 2, 3, 4, 5, 6, 7, 8, 9, 10, 11, 12, 13, 14, 15, 16, 17, 18, 19, 20] [21] [1, 2, 3, 4, 5, 6, 7, 8, 9, 10, 11, 12, 13, 14, 15, 16, 17, 18, 19, 20, 21, 0] rfl rfl rfl rfl (by decide) rfl (fun _ => rfl) rfl rfl rfl (Nat.le_of_ble_eq_true rfl) dL_run_5 ⟨by decide, by decide⟩ (fun E ce q9 H locs ho hW hce hcv hcl => ?_) (fun u H locs ho hW => ?_)
  · rcases hE E ho with rfl | rfl
    · subst ho
      refine gs_catch hC [] ⟨0, 10, 13, 13⟩ [⟨0, 10, 17, 15⟩] hxt (fun z hz => absurd hz List.not_mem_nil) (by decide) (by decide) cl_L_13 hH (by decide) hce hcv hcl ?_
      refine lv_astore (lv' := [(4, .ref q9), (0, .ref a_t), (1, .int x1), (2, .int x2), (3, .ref a_o)]) hx hb dL_run_13 hl (by decide) rfl (fun ls hl => ?_)
      refine lv_iconst (v := 1) hx hb dL_run_15 (by decide) ?_
      exact gs_ri hC hW rfl dL_run_16
    · subst ho
      refine gs_catch hC [⟨0, 10, 13, 13⟩] ⟨0, 10, 17, 15⟩ [] hxt (fun z hz => ?_) (by decide) (by decide) cl_L_15 hH (by decide) hce hcv hcl ?_
      · obtain rfl : z = ⟨0, 10, 13, 13⟩ := by simpa using hz
        exact ⟨by decide, g_IA, cl_L_13, hN (g_IS, g_IA) (by simp)⟩
      · refine lv_astore (lv' := [(4, .ref q9), (0, .ref a_t), (1, .int x1), (2, .int x2), (3, .ref a_o)]) hx hb dL_run_17 hl (by decide) rfl (fun ls hl => ?_)
        refine lv_iconst (v := 2) hx hb dL_run_19 (by decide) ?_
        exact gs_ri hC hW rfl dL_run_20
  · subst ho
    refine lv_i2l hx hb dL_run_8 rfl ?_
    refine gs_last (ws' := w_X7_run cI cZ cJ a_t a_tb a_tb_parameterCounts a_tb_lengths a_tb_fields a_tb_entries a_ta a_ta_parameterCounts a_ta_lengths a_ta_fields a_ta_entries a_ty a_ty_outputValues a_ty_callCounts a_ty_latestValues a_ty_differing a_th a_th_inputs a_th_openFunctions a_th_openStatements a_th_registers a_tk a_tf a_tg (if x1 = 0 then a_tb else a_ta) t_analysed tb_functionCount tb_entryCount tb_parameterCounts tb_lengths tb_fields tb_entries ta_functionCount ta_entryCount ta_parameterCounts ta_lengths ta_fields ta_entries u.2.1 u.2.2.1 u.2.2.2.1 u.2.2.2.2.1 u.2.2.2.2.2.1 u.2.2.2.2.2.2.1 th_inputCount u.2.2.2.2.2.2.2.1 u.2.2.2.2.2.2.2.2.1 th_inputs u.2.2.2.2.2.2.2.2.2.1 u.2.2.2.2.2.2.2.2.2.2.1 u.2.2.2.2.2.2.2.2.2.2.2 ++ [(a_o, .inl (cJ, 1, .inr (.inl (vp_updL fo 0 u.1.toInt64))))]) hC hW 21 rfl rfl dL_run_9 (fun H locs hW => ?_)
    refine lv_goto (tgt := 21) hx hb dL_run_10 (by decide) ?_
    refine lv_iconst (v := 0) hx hb dL_run_21 (by decide) ?_
    exact gs_ri hC hW rfl dL_run_22

abbrev r_L_output : Room := { frames := 7, cells := 1, slots := 6, locals := 103 }
set_option maxHeartbeats 4000000 in
set_option maxRecDepth 100000 in
theorem k_L_output (l : Launch) (tA : Nat) (dC : Nat → ClassId) (dI : Nat → Nat → Nat) (cI cZ cJ : ClassId) (hlt : l.stackTraces = false) (a_t : Nat) (a_ty : Nat) (a_ty_outputValues : Nat) (a_tb : Nat) (a_ta : Nat) (a_tk : Nat) (a_tf : Nat) (a_tg : Nat) (a_th : Nat) (a_ty_callCounts : Nat) (a_ty_latestValues : Nat) (a_ty_differing : Nat) (a_o : Nat) (x1 : Int32) (t_analysed : Int32) (ty_doneCount : Int32) (ty_outputCount : Int32) (ty_outputValues : Nat → Int32) (fo : Nat → Int64) (out : (Int32) ⊕ String) (hf : f_X7_output x1 ty_outputCount ty_outputValues = some out) (hE : ∀ E, out = .inr E → E = g_IO) : g_ML l yL_output cL_output 4 (some .int) [(0, 9, 12, 21)] r_L_output tA dC dI cI cZ cJ [.ref a_t, .int x1, .ref a_o] (w_X7_output cI cZ cJ a_t a_ty a_ty_outputValues a_tb a_ta a_tk a_tf a_tg a_th a_ty_callCounts a_ty_latestValues a_ty_differing t_analysed ty_doneCount ty_outputCount ty_outputValues ++ [(a_o, .inl (cJ, 1, .inr (.inl fo)))]) (g_wo out (fun u => w_X7_output cI cZ cJ a_t a_ty a_ty_outputValues a_tb a_ta a_tk a_tf a_tg a_th a_ty_callCounts a_ty_latestValues a_ty_differing t_analysed ty_doneCount ty_outputCount ty_outputValues ++ [(a_o, .inl (cJ, 1, .inr (.inl (vp_updL fo 0 u.toInt64))))]) (w_X7_output cI cZ cJ a_t a_ty a_ty_outputValues a_tb a_ta a_tk a_tf a_tg a_th a_ty_callCounts a_ty_latestValues a_ty_differing t_analysed ty_doneCount ty_outputCount ty_outputValues ++ [(a_o, .inl (cJ, 1, .inr (.inl fo)))])) (g_kk [g_IO] out) := by
  refine ge_L (by decide) (Nat.le_of_ble_eq_true rfl) (fun p e s m below meth c A H locs ls hC hxt hH hN hW hl => ?_)
  have hC : g_C p s m meth c _ cL_output 4 (some .int) RL := hC
  have hx := hC.1
  have hb := hC.2.1
  have hl : lv_has ls 4 [(0, .ref a_t), (1, .int x1), (2, .ref a_o)] := hl
  refine lv_aload_n hx hb dL_output_0 rfl (lv_at hl 2 rfl) ?_
  refine lv_iconst (v := 0) hx hb dL_output_1 (by decide) ?_
  refine lv_aload_n hx hb dL_output_2 rfl (lv_at hl 0 rfl) ?_
  refine lv_iload_n hx hb dL_output_3 rfl (lv_at hl 1 rfl) ?_
  refine gs_callXL (ws' := fun u => w_X7_output cI cZ cJ a_t a_ty a_ty_outputValues a_tb a_ta a_tk a_tf a_tg a_th a_ty_callCounts a_ty_latestValues a_ty_differing t_analysed ty_doneCount ty_outputCount ty_outputValues ++ [(a_o, .inl (cJ, 1, .inr (.inl fo)))]) hC hW hH (k_X7_output l tA dC dI cI cZ cJ hlt a_t a_ty a_ty_outputValues a_tb a_ta a_tk a_tf a_tg a_th a_ty_callCounts a_ty_latestValues a_ty_differing x1 t_analysed ty_doneCount ty_outputCount ty_outputValues _ hf) yk_X7_output lk_L_43 iv_X7_output ⟨rfl, rfl⟩ ⟨Nat.le_of_ble_eq_true rfl, Nat.le_of_ble_eq_true rfl⟩ hl.1 0 rfl rfl [0, 1, 2] [3] [1, 2, 3, 0] rfl rfl rfl rfl (by decide) rfl (fun _ => rfl) rfl rfl rfl (Nat.le_of_ble_eq_true rfl) dL_output_4 ⟨by decide, by decide⟩ (fun E ce q9 H locs ho hW hce hcv hcl => ?_) (fun u H locs ho hW => ?_)
  · rcases hE E ho with rfl
    · subst ho
      refine gs_catch hC [] ⟨0, 9, 12, 21⟩ [] hxt (fun z hz => absurd hz List.not_mem_nil) (by decide) (by decide) cl_L_21 hH (by decide) hce hcv hcl ?_
      refine lv_astore_n (lv' := [(3, .ref q9), (0, .ref a_t), (1, .int x1), (2, .ref a_o)]) hx hb dL_output_12 rfl hl (by decide) rfl (fun ls hl => ?_)
      refine lv_iconst (v := 1) hx hb dL_output_13 (by decide) ?_
      exact gs_ri hC hW rfl dL_output_14
  · subst ho
    refine lv_i2l hx hb dL_output_7 rfl ?_
    refine gs_last (ws' := w_X7_output cI cZ cJ a_t a_ty a_ty_outputValues a_tb a_ta a_tk a_tf a_tg a_th a_ty_callCounts a_ty_latestValues a_ty_differing t_analysed ty_doneCount ty_outputCount ty_outputValues ++ [(a_o, .inl (cJ, 1, .inr (.inl (vp_updL fo 0 u.toInt64))))]) hC hW 3 rfl rfl dL_output_8 (fun H locs hW => ?_)
    refine lv_goto (tgt := 15) hx hb dL_output_9 (by decide) ?_
    refine lv_iconst (v := 0) hx hb dL_output_15 (by decide) ?_
    exact gs_ri hC hW rfl dL_output_16

abbrev r_L_calls : Room := { frames := 7, cells := 1, slots := 6, locals := 103 }
set_option maxHeartbeats 4000000 in
set_option maxRecDepth 100000 in
theorem k_L_calls (l : Launch) (tA : Nat) (dC : Nat → ClassId) (dI : Nat → Nat → Nat) (cI cZ cJ : ClassId) (hlt : l.stackTraces = false) (a_t : Nat) (a_ty : Nat) (a_ty_callCounts : Nat) (a_tb : Nat) (a_ta : Nat) (a_tk : Nat) (a_tf : Nat) (a_tg : Nat) (a_th : Nat) (a_ty_outputValues : Nat) (a_ty_latestValues : Nat) (a_ty_differing : Nat) (a_o : Nat) (x1 : Int32) (t_analysed : Int32) (ty_doneCount : Int32) (ty_outputCount : Int32) (ty_callCounts : Nat → Int32) (fo : Nat → Int64) (out : (Int32) ⊕ String) (hf : f_X7_calls x1 ty_callCounts = some out) (hE : ∀ E, out = .inr E → E = g_IO) : g_ML l yL_calls cL_calls 4 (some .int) [(0, 9, 12, 21)] r_L_calls tA dC dI cI cZ cJ [.ref a_t, .int x1, .ref a_o] (w_X7_calls cI cZ cJ a_t a_ty a_ty_callCounts a_tb a_ta a_tk a_tf a_tg a_th a_ty_outputValues a_ty_latestValues a_ty_differing t_analysed ty_doneCount ty_outputCount ty_callCounts ++ [(a_o, .inl (cJ, 1, .inr (.inl fo)))]) (g_wo out (fun u => w_X7_calls cI cZ cJ a_t a_ty a_ty_callCounts a_tb a_ta a_tk a_tf a_tg a_th a_ty_outputValues a_ty_latestValues a_ty_differing t_analysed ty_doneCount ty_outputCount ty_callCounts ++ [(a_o, .inl (cJ, 1, .inr (.inl (vp_updL fo 0 u.toInt64))))]) (w_X7_calls cI cZ cJ a_t a_ty a_ty_callCounts a_tb a_ta a_tk a_tf a_tg a_th a_ty_outputValues a_ty_latestValues a_ty_differing t_analysed ty_doneCount ty_outputCount ty_callCounts ++ [(a_o, .inl (cJ, 1, .inr (.inl fo)))])) (g_kk [g_IO] out) := by
  refine ge_L (by decide) (Nat.le_of_ble_eq_true rfl) (fun p e s m below meth c A H locs ls hC hxt hH hN hW hl => ?_)
  have hC : g_C p s m meth c _ cL_calls 4 (some .int) RL := hC
  have hx := hC.1
  have hb := hC.2.1
  have hl : lv_has ls 4 [(0, .ref a_t), (1, .int x1), (2, .ref a_o)] := hl
  refine lv_aload_n hx hb dL_calls_0 rfl (lv_at hl 2 rfl) ?_
  refine lv_iconst (v := 0) hx hb dL_calls_1 (by decide) ?_
  refine lv_aload_n hx hb dL_calls_2 rfl (lv_at hl 0 rfl) ?_
  refine lv_iload_n hx hb dL_calls_3 rfl (lv_at hl 1 rfl) ?_
  refine gs_callXL (ws' := fun u => w_X7_calls cI cZ cJ a_t a_ty a_ty_callCounts a_tb a_ta a_tk a_tf a_tg a_th a_ty_outputValues a_ty_latestValues a_ty_differing t_analysed ty_doneCount ty_outputCount ty_callCounts ++ [(a_o, .inl (cJ, 1, .inr (.inl fo)))]) hC hW hH (k_X7_calls l tA dC dI cI cZ cJ hlt a_t a_ty a_ty_callCounts a_tb a_ta a_tk a_tf a_tg a_th a_ty_outputValues a_ty_latestValues a_ty_differing x1 t_analysed ty_doneCount ty_outputCount ty_callCounts _ hf) yk_X7_calls lk_L_46 iv_X7_calls ⟨rfl, rfl⟩ ⟨Nat.le_of_ble_eq_true rfl, Nat.le_of_ble_eq_true rfl⟩ hl.1 0 rfl rfl [0, 1, 2] [3] [1, 2, 3, 0] rfl rfl rfl rfl (by decide) rfl (fun _ => rfl) rfl rfl rfl (Nat.le_of_ble_eq_true rfl) dL_calls_4 ⟨by decide, by decide⟩ (fun E ce q9 H locs ho hW hce hcv hcl => ?_) (fun u H locs ho hW => ?_)
  · rcases hE E ho with rfl
    · subst ho
      refine gs_catch hC [] ⟨0, 9, 12, 21⟩ [] hxt (fun z hz => absurd hz List.not_mem_nil) (by decide) (by decide) cl_L_21 hH (by decide) hce hcv hcl ?_
      refine lv_astore_n (lv' := [(3, .ref q9), (0, .ref a_t), (1, .int x1), (2, .ref a_o)]) hx hb dL_calls_12 rfl hl (by decide) rfl (fun ls hl => ?_)
      refine lv_iconst (v := 1) hx hb dL_calls_13 (by decide) ?_
      exact gs_ri hC hW rfl dL_calls_14
  · subst ho
    refine lv_i2l hx hb dL_calls_7 rfl ?_
    refine gs_last (ws' := w_X7_calls cI cZ cJ a_t a_ty a_ty_callCounts a_tb a_ta a_tk a_tf a_tg a_th a_ty_outputValues a_ty_latestValues a_ty_differing t_analysed ty_doneCount ty_outputCount ty_callCounts ++ [(a_o, .inl (cJ, 1, .inr (.inl (vp_updL fo 0 u.toInt64))))]) hC hW 3 rfl rfl dL_calls_8 (fun H locs hW => ?_)
    refine lv_goto (tgt := 15) hx hb dL_calls_9 (by decide) ?_
    refine lv_iconst (v := 0) hx hb dL_calls_15 (by decide) ?_
    exact gs_ri hC hW rfl dL_calls_16

abbrev r_L_same : Room := { frames := 7, cells := 1, slots := 6, locals := 104 }
set_option maxHeartbeats 4000000 in
set_option maxRecDepth 100000 in
theorem k_L_same (l : Launch) (tA : Nat) (dC : Nat → ClassId) (dI : Nat → Nat → Nat) (cI cZ cJ : ClassId) (hlt : l.stackTraces = false) (a_t : Nat) (a_ty : Nat) (a_ty_callCounts : Nat) (a_ty_differing : Nat) (a_tb : Nat) (a_ta : Nat) (a_tk : Nat) (a_tf : Nat) (a_tg : Nat) (a_th : Nat) (a_ty_outputValues : Nat) (a_ty_latestValues : Nat) (a_o : Nat) (x1 : Int32) (x2 : Int32) (t_analysed : Int32) (ty_doneCount : Int32) (ty_outputCount : Int32) (ty_callCounts : Nat → Int32) (ty_differing : Nat → Int32) (fo : Nat → Int64) (out : (Int32) ⊕ String) (hf : f_X7_same x1 x2 ty_callCounts ty_differing = some out) (hE : ∀ E, out = .inr E → E = g_IO) : g_ML l yL_same cL_same 5 (some .int) [(0, 17, 20, 21)] r_L_same tA dC dI cI cZ cJ [.ref a_t, .int x1, .int x2, .ref a_o] (w_X7_same cI cZ cJ a_t a_ty a_ty_callCounts a_ty_differing a_tb a_ta a_tk a_tf a_tg a_th a_ty_outputValues a_ty_latestValues t_analysed ty_doneCount ty_outputCount ty_callCounts ty_differing ++ [(a_o, .inl (cJ, 1, .inr (.inl fo)))]) (g_wo out (fun u => w_X7_same cI cZ cJ a_t a_ty a_ty_callCounts a_ty_differing a_tb a_ta a_tk a_tf a_tg a_th a_ty_outputValues a_ty_latestValues t_analysed ty_doneCount ty_outputCount ty_callCounts ty_differing ++ [(a_o, .inl (cJ, 1, .inr (.inl (vp_updL fo 0 (if u = 0 then 0 else 1)))))]) (w_X7_same cI cZ cJ a_t a_ty a_ty_callCounts a_ty_differing a_tb a_ta a_tk a_tf a_tg a_th a_ty_outputValues a_ty_latestValues t_analysed ty_doneCount ty_outputCount ty_callCounts ty_differing ++ [(a_o, .inl (cJ, 1, .inr (.inl fo)))])) (g_kk [g_IO] out) := by
  refine ge_L (by decide) (Nat.le_of_ble_eq_true rfl) (fun p e s m below meth c A H locs ls hC hxt hH hN hW hl => ?_)
  have hC : g_C p s m meth c _ cL_same 5 (some .int) RL := hC
  have hx := hC.1
  have hb := hC.2.1
  have hl : lv_has ls 5 [(0, .ref a_t), (1, .int x1), (2, .int x2), (3, .ref a_o)] := hl
  refine lv_aload_n hx hb dL_same_0 rfl (lv_at hl 3 rfl) ?_
  refine lv_iconst (v := 0) hx hb dL_same_1 (by decide) ?_
  refine lv_aload_n hx hb dL_same_2 rfl (lv_at hl 0 rfl) ?_
  refine lv_iload_n hx hb dL_same_3 rfl (lv_at hl 1 rfl) ?_
  refine lv_iload_n hx hb dL_same_4 rfl (lv_at hl 2 rfl) ?_
  refine gs_callXL (ws' := fun u => w_X7_same cI cZ cJ a_t a_ty a_ty_callCounts a_ty_differing a_tb a_ta a_tk a_tf a_tg a_th a_ty_outputValues a_ty_latestValues t_analysed ty_doneCount ty_outputCount ty_callCounts ty_differing ++ [(a_o, .inl (cJ, 1, .inr (.inl fo)))]) hC hW hH (k_X7_same l tA dC dI cI cZ cJ hlt a_t a_ty a_ty_callCounts a_ty_differing a_tb a_ta a_tk a_tf a_tg a_th a_ty_outputValues a_ty_latestValues x1 x2 t_analysed ty_doneCount ty_outputCount ty_callCounts ty_differing _ hf) yk_X7_same lk_L_49 iv_X7_same ⟨rfl, rfl⟩ ⟨Nat.le_of_ble_eq_true rfl, Nat.le_of_ble_eq_true rfl⟩ hl.1 0 rfl rfl [0, 1, 2, 3] [4] [1, 2, 3, 4, 0] rfl rfl rfl rfl (by decide) rfl (fun _ => rfl) rfl rfl rfl (Nat.le_of_ble_eq_true rfl) dL_same_5 ⟨by decide, by decide⟩ (fun E ce q9 H locs ho hW hce hcv hcl => ?_) (fun u H locs ho hW => ?_)
  · rcases hE E ho with rfl
    · subst ho
      refine gs_catch hC [] ⟨0, 17, 20, 21⟩ [] hxt (fun z hz => absurd hz List.not_mem_nil) (by decide) (by decide) cl_L_21 hH (by decide) hce hcv hcl ?_
      refine lv_astore (lv' := [(4, .ref q9), (0, .ref a_t), (1, .int x1), (2, .int x2), (3, .ref a_o)]) hx hb dL_same_20 hl (by decide) rfl (fun ls hl => ?_)
      refine lv_iconst (v := 1) hx hb dL_same_22 (by decide) ?_
      exact gs_ri hC hW rfl dL_same_23
  · subst ho
    refine lv_if_eq (tgt := 15) hx hb dL_same_8 (by decide) (fun c1 => ?_) (fun c1 => ?_)
    · refine lv_lconst (v := 0) hx hb dL_same_15 (by decide) ?_
      refine gs_last (ws' := w_X7_same cI cZ cJ a_t a_ty a_ty_callCounts a_ty_differing a_tb a_ta a_tk a_tf a_tg a_th a_ty_outputValues a_ty_latestValues t_analysed ty_doneCount ty_outputCount ty_callCounts ty_differing ++ [(a_o, .inl (cJ, 1, .inr (.inl (vp_updL fo 0 0))))]) hC hW 4 rfl rfl dL_same_16 (fun H locs hW => ?_)
      refine lv_goto (tgt := 24) hx hb dL_same_17 (by decide) ?_
      refine lv_iconst (v := 0) hx hb dL_same_24 (by decide) ?_
      exact gs_ri hC hW (by simp only [g_wo, if_pos c1]) dL_same_25
    · refine lv_lconst (v := 1) hx hb dL_same_11 (by decide) ?_
      refine lv_goto (tgt := 16) hx hb dL_same_12 (by decide) ?_
      refine gs_last (ws' := w_X7_same cI cZ cJ a_t a_ty a_ty_callCounts a_ty_differing a_tb a_ta a_tk a_tf a_tg a_th a_ty_outputValues a_ty_latestValues t_analysed ty_doneCount ty_outputCount ty_callCounts ty_differing ++ [(a_o, .inl (cJ, 1, .inr (.inl (vp_updL fo 0 1))))]) hC hW 4 rfl rfl dL_same_16 (fun H locs hW => ?_)
      refine lv_goto (tgt := 24) hx hb dL_same_17 (by decide) ?_
      refine lv_iconst (v := 0) hx hb dL_same_24 (by decide) ?_
      exact gs_ri hC hW (by simp only [g_wo, if_neg c1]) dL_same_25

abbrev r_L_latest : Room := { frames := 7, cells := 1, slots := 6, locals := 104 }
set_option maxHeartbeats 4000000 in
set_option maxRecDepth 100000 in
theorem k_L_latest (l : Launch) (tA : Nat) (dC : Nat → ClassId) (dI : Nat → Nat → Nat) (cI cZ cJ : ClassId) (hlt : l.stackTraces = false) (a_t : Nat) (a_ty : Nat) (a_ty_latestValues : Nat) (a_tb : Nat) (a_ta : Nat) (a_tk : Nat) (a_tf : Nat) (a_tg : Nat) (a_th : Nat) (a_ty_outputValues : Nat) (a_ty_callCounts : Nat) (a_ty_differing : Nat) (a_o : Nat) (x1 : Int32) (x2 : Int32) (t_analysed : Int32) (ty_doneCount : Int32) (ty_outputCount : Int32) (ty_latestValues : Nat → Int32) (fo : Nat → Int64) (out : (Int32) ⊕ String) (hf : f_X7_latest x1 x2 ty_latestValues = some out) (hE : ∀ E, out = .inr E → E = g_IO) : g_ML l yL_latest cL_latest 5 (some .int) [(0, 10, 13, 21)] r_L_latest tA dC dI cI cZ cJ [.ref a_t, .int x1, .int x2, .ref a_o] (w_X7_latest cI cZ cJ a_t a_ty a_ty_latestValues a_tb a_ta a_tk a_tf a_tg a_th a_ty_outputValues a_ty_callCounts a_ty_differing t_analysed ty_doneCount ty_outputCount ty_latestValues ++ [(a_o, .inl (cJ, 1, .inr (.inl fo)))]) (g_wo out (fun u => w_X7_latest cI cZ cJ a_t a_ty a_ty_latestValues a_tb a_ta a_tk a_tf a_tg a_th a_ty_outputValues a_ty_callCounts a_ty_differing t_analysed ty_doneCount ty_outputCount ty_latestValues ++ [(a_o, .inl (cJ, 1, .inr (.inl (vp_updL fo 0 u.toInt64))))]) (w_X7_latest cI cZ cJ a_t a_ty a_ty_latestValues a_tb a_ta a_tk a_tf a_tg a_th a_ty_outputValues a_ty_callCounts a_ty_differing t_analysed ty_doneCount ty_outputCount ty_latestValues ++ [(a_o, .inl (cJ, 1, .inr (.inl fo)))])) (g_kk [g_IO] out) := by
  refine ge_L (by decide) (Nat.le_of_ble_eq_true rfl) (fun p e s m below meth c A H locs ls hC hxt hH hN hW hl => ?_)
  have hC : g_C p s m meth c _ cL_latest 5 (some .int) RL := hC
  have hx := hC.1
  have hb := hC.2.1
  have hl : lv_has ls 5 [(0, .ref a_t), (1, .int x1), (2, .int x2), (3, .ref a_o)] := hl
  refine lv_aload_n hx hb dL_latest_0 rfl (lv_at hl 3 rfl) ?_
  refine lv_iconst (v := 0) hx hb dL_latest_1 (by decide) ?_
  refine lv_aload_n hx hb dL_latest_2 rfl (lv_at hl 0 rfl) ?_
  refine lv_iload_n hx hb dL_latest_3 rfl (lv_at hl 1 rfl) ?_
  refine lv_iload_n hx hb dL_latest_4 rfl (lv_at hl 2 rfl) ?_
  refine gs_callXL (ws' := fun u => w_X7_latest cI cZ cJ a_t a_ty a_ty_latestValues a_tb a_ta a_tk a_tf a_tg a_th a_ty_outputValues a_ty_callCounts a_ty_differing t_analysed ty_doneCount ty_outputCount ty_latestValues ++ [(a_o, .inl (cJ, 1, .inr (.inl fo)))]) hC hW hH (k_X7_latest l tA dC dI cI cZ cJ hlt a_t a_ty a_ty_latestValues a_tb a_ta a_tk a_tf a_tg a_th a_ty_outputValues a_ty_callCounts a_ty_differing x1 x2 t_analysed ty_doneCount ty_outputCount ty_latestValues _ hf) yk_X7_latest lk_L_53 iv_X7_latest ⟨rfl, rfl⟩ ⟨Nat.le_of_ble_eq_true rfl, Nat.le_of_ble_eq_true rfl⟩ hl.1 0 rfl rfl [0, 1, 2] [3] [1, 2, 3, 0] rfl rfl rfl rfl (by decide) rfl (fun _ => rfl) rfl rfl rfl (Nat.le_of_ble_eq_true rfl) dL_latest_5 ⟨by decide, by decide⟩ (fun E ce q9 H locs ho hW hce hcv hcl => ?_) (fun u H locs ho hW => ?_)
  · rcases hE E ho with rfl
    · subst ho
      refine gs_catch hC [] ⟨0, 10, 13, 21⟩ [] hxt (fun z hz => absurd hz List.not_mem_nil) (by decide) (by decide) cl_L_21 hH (by decide) hce hcv hcl ?_
      refine lv_astore (lv' := [(4, .ref q9), (0, .ref a_t), (1, .int x1), (2, .int x2), (3, .ref a_o)]) hx hb dL_latest_13 hl (by decide) rfl (fun ls hl => ?_)
      refine lv_iconst (v := 1) hx hb dL_latest_15 (by decide) ?_
      exact gs_ri hC hW rfl dL_latest_16
  · subst ho
    refine lv_i2l hx hb dL_latest_8 rfl ?_
    refine gs_last (ws' := w_X7_latest cI cZ cJ a_t a_ty a_ty_latestValues a_tb a_ta a_tk a_tf a_tg a_th a_ty_outputValues a_ty_callCounts a_ty_differing t_analysed ty_doneCount ty_outputCount ty_latestValues ++ [(a_o, .inl (cJ, 1, .inr (.inl (vp_updL fo 0 u.toInt64))))]) hC hW 3 rfl rfl dL_latest_9 (fun H locs hW => ?_)
    refine lv_goto (tgt := 17) hx hb dL_latest_10 (by decide) ?_
    refine lv_iconst (v := 0) hx hb dL_latest_17 (by decide) ?_
    exact gs_ri hC hW rfl dL_latest_18
