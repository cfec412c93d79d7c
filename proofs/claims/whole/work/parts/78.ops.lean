set_option maxHeartbeats 4000000 in
theorem op_function {N : Nat} (hN : 20000 ≤ N) {t_analysed : Int32} {tb_functionCount : Int32} {tb_entryCount : Int32} {tb_parameterCounts : Nat → Int32} {tb_lengths : Nat → Int32} {tb_fields : Nat → Int32} {tb_entries : Nat → Int32} {ta_functionCount : Int32} {ta_entryCount : Int32} {ta_parameterCounts : Nat → Int32} {ta_lengths : Nat → Int32} {ta_fields : Nat → Int32} {ta_entries : Nat → Int32} {tk_comeTo : Nat → Int32} {tk_any : Nat → Int32} {tk_numbers : Nat → Int32} {tf_waitingCount : Int32} {tfr_any : Nat → Int32} {tfr_numbers : Nat → Int32} {tf_isWaiting : Nat → Int32} {tf_waiting : Nat → Int32} {ty_doneCount : Int32} {ty_outputCount : Int32} {ty_outputValues : Nat → Int32} {ty_callCounts : Nat → Int32} {ty_latestValues : Nat → Int32} {ty_differing : Nat → Int32} {th_inputCount : Int32} {th_inputsRead : Int32} {th_openCount : Int32} {th_inputs : Nat → Int32} {th_openFunctions : Nat → Int32} {th_openStatements : Nat → Int32} {th_registers : Nat → Int32} {m_code : Int32} {m_own : Int32} {m_count : Int32} {m_tableSize : Int32} {m_given : Int32} {m_known : Int32} {m_news : Int32} {m_depth : Int32} {m_steps : Int32} {m_taken : Int32} {m_shown : Int32} {m_outcome : Int32} {m_parameters : Nat → Int32} {m_length : Nat → Int32} {m_newLength : Nat → Int32} {m_first : Nat → Int32} {m_now : Nat → Int32} {m_anew : Nat → Int32} {m_table : Nat → Int32} {m_inputs : Nat → Int32} {m_met : Nat → Int32} {m_any : Nat → Int32} {m_number : Nat → Int32} {m_outAny : Nat → Int32} {m_out : Nat → Int32} {m_at : Nat → Int32} {m_in : Nat → Int32} {m_back : Nat → Int32} {m_register : Nat → Int32} {m_output : Nat → Int32} {m_calls : Nat → Int32} {m_latest : Nat → Int32} {m_differ : Nat → Int32} (hRel : Rel t_analysed tb_functionCount tb_entryCount tb_parameterCounts tb_lengths tb_fields tb_entries ta_functionCount ta_entryCount ta_parameterCounts ta_lengths ta_fields ta_entries tk_comeTo tk_any tk_numbers tf_waitingCount tfr_any tfr_numbers tf_isWaiting tf_waiting ty_doneCount ty_outputCount ty_outputValues ty_callCounts ty_latestValues ty_differing th_inputCount th_inputsRead th_openCount th_inputs th_openFunctions th_openStatements th_registers m_code m_own m_count m_tableSize m_given m_known m_news m_depth m_steps m_taken m_shown m_outcome m_parameters m_length m_newLength m_first m_now m_anew m_table m_inputs m_met m_any m_number m_outAny m_out m_at m_in m_back m_register m_output m_calls m_latest m_differ) (x1 : Int32) : ∃ (o : (Int32 × Int32 × Int32 × (Nat → Int32) × (Nat → Int32)) ⊕ String) (o2 : Int32 × Int32 × Int32 × Int32 × Int32 × (Nat → Int32) × (Nat → Int32)), f_X7_function x1 t_analysed tb_functionCount tb_parameterCounts tb_lengths = some o ∧ (∀ E, o = .inr E → E = g_IA ∨ E = g_IS) ∧ f_X8_function x1 m_code m_own m_count m_known m_parameters m_length = some o2 ∧ o2.2.1 = g_kk [g_IA, g_IS] o ∧ (∀ u, o = .inl u → u.1 = o2.1) ∧ Rel (g_p o (fun u => u.2.1) t_analysed) (g_p o (fun u => u.2.2.1) tb_functionCount) tb_entryCount (g_p o (fun u => u.2.2.2.1) tb_parameterCounts) (g_p o (fun u => u.2.2.2.2) tb_lengths) tb_fields tb_entries ta_functionCount ta_entryCount ta_parameterCounts ta_lengths ta_fields ta_entries tk_comeTo tk_any tk_numbers tf_waitingCount tfr_any tfr_numbers tf_isWaiting tf_waiting ty_doneCount ty_outputCount ty_outputValues ty_callCounts ty_latestValues ty_differing th_inputCount th_inputsRead th_openCount th_inputs th_openFunctions th_openStatements th_registers o2.2.1 o2.2.2.1 o2.2.2.2.1 m_tableSize m_given o2.2.2.2.2.1 m_news m_depth m_steps m_taken m_shown m_outcome o2.2.2.2.2.2.1 o2.2.2.2.2.2.2 m_newLength m_first m_now m_anew m_table m_inputs m_met m_any m_number m_outAny m_out m_at m_in m_back m_register m_output m_calls m_latest m_differ := by
  obtain ⟨⟨n, e, pn, ln, hn, he, h1, h2, h3, h4, hW, hp, hfl, htb⟩, hK, hI, hT, hF⟩ := id hRel
  rcases pk_ix x1 (n := 4) (by omega) with h | h | ⟨j, hj, rfl⟩
  · exact ⟨.inr g_IA, (0, 1, m_own, m_count, m_known, m_parameters, m_length), (if_pos h), fun E hE => Or.inl (Sum.inr.inj hE).symm, (if_pos h), rfl, fun u hu => (by cases hu), hRel⟩
  · have h0 : ¬ x1 < 0 := q_nlt0 (by omega) h
    have h3' : ¬ x1 ≤ 3 := fun q => Int32.lt_irrefl (Int32.lt_of_lt_of_le (show (3 : Int32) < nI 4 by decide) (Int32.le_trans h q))
    have h3'' : 3 < x1 := Int32.lt_of_lt_of_le (show (3 : Int32) < nI 4 by decide) h
    exact ⟨.inr g_IA, (0, 1, m_own, m_count, m_known, m_parameters, m_length), (by unfold f_X7_function; rw [if_neg h0, if_neg h3']), fun E hE => Or.inl (Sum.inr.inj hE).symm, (by unfold f_X8_function; rw [if_neg h0, if_pos h3'']; rfl), rfl, fun u hu => (by cases hu), hRel⟩
  · have h0 := nI_pos (n := j) (by omega)
    have hj3 : nI j ≤ 3 := nI_le (b := 3) (by omega) (by omega)
    have hj3' : ¬ 3 < nI j := nI_nlt (a := 3) (b := j) (by omega) (by omega)
    by_cases hn0 : n = 0
    · subst hn0
      have a1 : f_X4_hasFunction 0 (nI 0) = some 0 := by decide
      by_cases hj0 : j = 0
      · subst hj0
        refine ⟨.inl (nI 0, 0, nI 0 + 1, upd tb_parameterCounts 0 (nI 0), upd tb_lengths 0 0), (nI 0 + 1 - 1, 0, nI 0 + 1, nI 0 + 1, 0, upd m_parameters 0 (nI 0), upd m_length 0 0), ?_, fun E hE => (by cases hE), ?_, rfl, fun u hu => (by cases hu; exact (show nI 0 = nI 0 + 1 - 1 by decide)), ⟨1, e, _, _, by omega, he, rfl, rfl, h3, h4, q_WP_fun hW (p := 0) (by omega) (fun _ => rfl), fun f hf => ?_, fun f hf i hi => ?_, htb⟩, Or.inl ⟨rfl, rfl, rfl⟩, hI, hT, hF⟩
        · unfold f_X7_function; rw [if_neg h0, if_pos hj3, h1, q_bind a1, if_pos rfl, if_pos (by decide), if_pos (by decide), q_bind (q_addF (by omega))]
        · unfold f_X8_function; rw [if_neg h0, if_neg hj3', h2, if_pos (by decide), if_pos (by decide), if_neg (by decide)]; unfold f_X8_function_39; rw [if_pos (by decide), q_bind (q_wr (by omega) (by omega)), q_bind (q_wr (by omega) (by omega))]; rfl
        · obtain rfl : f = 0 := by omega
          exact ⟨show upd m_parameters 0 (nI 0) 0 = nI (nup pn 0 0 0) by rw [nup_s]; exact q_upd_s, show upd m_length 0 0 0 = nI (nup ln 0 0 0) by rw [nup_s]; exact q_upd_s⟩
        · obtain rfl : f = 0 := by omega
          rw [nup_s] at hi; omega
      · have hjne : ¬ nI j = 0 := nI_ne0 (by omega) (by omega)
        have hjle : ¬ nI j ≤ 0 := nI_nle (by omega) (by omega)
        exact ⟨.inr g_IA, (0, 1, m_own, m_count, m_known, m_parameters, m_length), (by unfold f_X7_function; rw [if_neg h0, if_pos hj3, h1, q_bind a1, if_pos rfl, if_neg hjne]), fun E hE => Or.inl (Sum.inr.inj hE).symm, (by unfold f_X8_function; rw [if_neg h0, if_neg hj3', h2, if_pos (by decide), if_neg hjle]; rfl), rfl, fun u hu => (by cases hu), hRel⟩
    · have a1 : f_X4_hasFunction 0 (nI n) = some 1 := by
        unfold f_X4_hasFunction; rw [if_neg (by decide), if_neg (nI_nle (by omega) (by omega))]
      have hon : ¬ nI n = 0 := nI_ne0 (by omega) (by omega)
      by_cases hn6 : n = 6
      · subst hn6
        refine ⟨.inr g_IS, (0, 2, m_own, m_count, m_known, m_parameters, m_length), ?_, fun E hE => Or.inr (Sum.inr.inj hE).symm, ?_, q_k2.symm, fun u hu => (by cases hu), hRel⟩
        · unfold f_X7_function; rw [if_neg h0, if_pos hj3, h1, q_bind a1, if_neg (by decide), if_neg (by decide)]
        · unfold f_X8_function; rw [if_neg h0, if_neg hj3', h2, if_neg hon, if_pos (by decide)]; rfl
      · have hl : nI n < 6 := nI_lt (b := 6) (by omega) (by omega)
        have hne : ¬ nI n = 6 := fun q => hn6 ((nI_eq (b := 6) (by omega) (by omega)).mp q)
        refine ⟨.inl (nI n, 0, nI n + 1, upd tb_parameterCounts n (nI j), upd tb_lengths n 0), (nI n + 1 - 1, 0, nI n + 1, nI n + 1, 0, upd m_parameters n (nI j), upd m_length n 0), ?_, fun E hE => (by cases hE), ?_, rfl, fun u hu => (by cases hu; exact (by rw [nI_1, nI_pred] : nI n + 1 - 1 = nI n).symm), ⟨n + 1, e, _, _, by omega, he, nI_1 n, nI_1 n, h3, h4, q_WP_fun hW (p := j) (by omega) (fun q => absurd q hn0), fun f hf => ?_, fun f hf i hi => ?_, htb⟩, Or.inl ⟨rfl, rfl, rfl⟩, hI, hT, hF⟩
        · unfold f_X7_function; rw [if_neg h0, if_pos hj3, h1, q_bind a1, if_neg (by decide), if_pos hl, q_bind (q_addF (by omega))]
        · unfold f_X8_function; rw [if_neg h0, if_neg hj3', h2, if_neg hon, if_neg hne]; unfold f_X8_function_39; rw [if_pos (by decide), q_bind (q_wr (by omega) (by omega)), q_bind (q_wr (by omega) (by omega))]; rfl
        · show upd m_parameters n (nI j) f = _ ∧ upd m_length n 0 f = _
          by_cases hfn : f = n
          · subst hfn; exact ⟨by rw [nup_s]; exact q_upd_s, by rw [nup_s]; exact q_upd_s⟩
          · rw [nup_n hfn, nup_n hfn, q_upd_n hfn, q_upd_n hfn]; exact hp f (by omega)
        · by_cases hfn : f = n
          · rw [hfn, nup_s] at hi; omega
          · rw [nup_n hfn] at hi; exact hfl f (by omega) i hi


set_option maxHeartbeats 4000000 in
theorem op_code {N : Nat} (hN : 20000 ≤ N) {t_analysed : Int32} {tb_functionCount : Int32} {tb_entryCount : Int32} {tb_parameterCounts : Nat → Int32} {tb_lengths : Nat → Int32} {tb_fields : Nat → Int32} {tb_entries : Nat → Int32} {ta_functionCount : Int32} {ta_entryCount : Int32} {ta_parameterCounts : Nat → Int32} {ta_lengths : Nat → Int32} {ta_fields : Nat → Int32} {ta_entries : Nat → Int32} {tk_comeTo : Nat → Int32} {tk_any : Nat → Int32} {tk_numbers : Nat → Int32} {tf_waitingCount : Int32} {tfr_any : Nat → Int32} {tfr_numbers : Nat → Int32} {tf_isWaiting : Nat → Int32} {tf_waiting : Nat → Int32} {ty_doneCount : Int32} {ty_outputCount : Int32} {ty_outputValues : Nat → Int32} {ty_callCounts : Nat → Int32} {ty_latestValues : Nat → Int32} {ty_differing : Nat → Int32} {th_inputCount : Int32} {th_inputsRead : Int32} {th_openCount : Int32} {th_inputs : Nat → Int32} {th_openFunctions : Nat → Int32} {th_openStatements : Nat → Int32} {th_registers : Nat → Int32} {m_code : Int32} {m_own : Int32} {m_count : Int32} {m_tableSize : Int32} {m_given : Int32} {m_known : Int32} {m_news : Int32} {m_depth : Int32} {m_steps : Int32} {m_taken : Int32} {m_shown : Int32} {m_outcome : Int32} {m_parameters : Nat → Int32} {m_length : Nat → Int32} {m_newLength : Nat → Int32} {m_first : Nat → Int32} {m_now : Nat → Int32} {m_anew : Nat → Int32} {m_table : Nat → Int32} {m_inputs : Nat → Int32} {m_met : Nat → Int32} {m_any : Nat → Int32} {m_number : Nat → Int32} {m_outAny : Nat → Int32} {m_out : Nat → Int32} {m_at : Nat → Int32} {m_in : Nat → Int32} {m_back : Nat → Int32} {m_register : Nat → Int32} {m_output : Nat → Int32} {m_calls : Nat → Int32} {m_latest : Nat → Int32} {m_differ : Nat → Int32} (hRel : Rel t_analysed tb_functionCount tb_entryCount tb_parameterCounts tb_lengths tb_fields tb_entries ta_functionCount ta_entryCount ta_parameterCounts ta_lengths ta_fields ta_entries tk_comeTo tk_any tk_numbers tf_waitingCount tfr_any tfr_numbers tf_isWaiting tf_waiting ty_doneCount ty_outputCount ty_outputValues ty_callCounts ty_latestValues ty_differing th_inputCount th_inputsRead th_openCount th_inputs th_openFunctions th_openStatements th_registers m_code m_own m_count m_tableSize m_given m_known m_news m_depth m_steps m_taken m_shown m_outcome m_parameters m_length m_newLength m_first m_now m_anew m_table m_inputs m_met m_any m_number m_outAny m_out m_at m_in m_back m_register m_output m_calls m_latest m_differ) (x1 : Int32) (x2 : Int32) (x3 : Int32) (x4 : Int32) (x5 : Int32) (x6 : Int32) : ∃ (o : (Int32 × Int32 × (Nat → Int32) × (Nat → Int32)) ⊕ String) (o2 : Int32 × Int32 × Int32 × Int32 × (Nat → Int32) × (Nat → Int32)), f_X7_code x1 x2 x3 x4 x5 x6 t_analysed tb_functionCount tb_lengths tb_fields = some o ∧ (∀ E, o = .inr E → E = g_IO ∨ E = g_IA ∨ E = g_IS) ∧ f_X8_code x1 x2 x3 x4 x5 x6 m_code m_own m_count m_known m_length m_first = some o2 ∧ o2.2.1 = g_kk [g_IO, g_IA, g_IS] o ∧ (∀ u, o = .inl u → u.1 = o2.1) ∧ Rel (g_p o (fun u => u.2.1) t_analysed) tb_functionCount tb_entryCount tb_parameterCounts (g_p o (fun u => u.2.2.1) tb_lengths) (g_p o (fun u => u.2.2.2) tb_fields) tb_entries ta_functionCount ta_entryCount ta_parameterCounts ta_lengths ta_fields ta_entries tk_comeTo tk_any tk_numbers tf_waitingCount tfr_any tfr_numbers tf_isWaiting tf_waiting ty_doneCount ty_outputCount ty_outputValues ty_callCounts ty_latestValues ty_differing th_inputCount th_inputsRead th_openCount th_inputs th_openFunctions th_openStatements th_registers o2.2.1 m_own o2.2.2.1 m_tableSize m_given o2.2.2.2.1 m_news m_depth m_steps m_taken m_shown m_outcome m_parameters o2.2.2.2.2.1 m_newLength o2.2.2.2.2.2 m_now m_anew m_table m_inputs m_met m_any m_number m_outAny m_out m_at m_in m_back m_register m_output m_calls m_latest m_differ := by
  obtain ⟨⟨n, e, pn, ln, hn, he, h1, h2, h3, h4, hW, hp, hfl, htb⟩, hK, hI, hT, hF⟩ := id hRel
  rcases q_hasF x1 (n := n) (by omega) with ⟨a1, a2⟩ | ⟨f, hf, rfl, a1, a2⟩
  · refine ⟨.inr g_IO, (0, 1, m_count, m_known, m_length, m_first), ?_, fun E hE => Or.inl (Sum.inr.inj hE).symm, ?_, q_kb1.symm, fun u hu => (by cases hu), hRel⟩
    · unfold f_X7_code; rw [h1, q_bind a1]; rfl
    · unfold f_X8_code; rw [h2, q_bind a2]; rfl
  · obtain ⟨k, hk, ek⟩ := pk_andE x2 (m := 15) 4 (by decide)
    obtain ⟨d, ed⟩ : ∃ d, d = x2 >>> (4 &&& 31) := ⟨_, rfl⟩
    have eX : f_X7_code (nI f) x2 x3 x4 x5 x6 t_analysed tb_functionCount tb_lengths tb_fields = if 12 < nI k then some (.inr g_IA) else if d < 0 then some (.inr g_IA) else if d < 6 then (g_rd 13 g_usedI (nI k)).bind (fun v6 => (f_X7_areOperands v6 x4 x5 x6).bind (fun o7 => if o7 = 0 then some (.inr g_IA) else (f_X7_isFitX (nI k) x3 (nI n)).bind (fun o9 => if o9 = 0 then some (.inr g_IA) else (g_rd 12 tb_lengths (nI f)).bind (fun v11 => if v11 < 16 then (f_X4_addStatement (nI f) (nI k) d x3 tb_lengths tb_fields).bind (fun o13 => (f_X4_putField (nI f) o13.1 3 x4 o13.2.2).bind (fun o14 => (f_X4_putField (nI f) o13.1 4 x5 o14).bind (fun o15 => (f_X4_putField (nI f) o13.1 5 x6 o15).bind (fun o16 => some (.inl (o13.1, 0, o13.2.1, o16)))))) else some (.inr g_IS))))) else some (.inr g_IA) := by
      unfold f_X7_code; rw [h1, q_bind a1, if_neg (by decide), ek, ← ed]
    have eM : f_X8_code (nI f) x2 x3 x4 x5 x6 m_code m_own m_count m_known m_length m_first = (f_X8_isGood (nI k) d x3 x4 x5 x6 (nI n)).bind (fun o15 => if o15 = 0 then some (0, 2, m_count, m_known, m_length, m_first) else (g_rd 12 m_length (nI f)).bind (fun v17 => if v17 = 16 then some (0, 3, m_count, m_known, m_length, m_first) else f_X8_code_54 (nI f) x2 x3 x4 x5 x6 (nI n) 0 m_code m_count m_known m_length m_first)) := by
      unfold f_X8_code; rw [h2, q_bind a2, if_neg (by decide), ek, ← ed]; rfl
    have bad : f_X8_isGood (nI k) d x3 x4 x5 x6 (nI n) = some 0 → f_X8_code (nI f) x2 x3 x4 x5 x6 m_code m_own m_count m_known m_length m_first = some (0, 2, m_count, m_known, m_length, m_first) := fun q => by rw [eM, q_bind q]; rfl
    have fin : f_X7_code (nI f) x2 x3 x4 x5 x6 t_analysed tb_functionCount tb_lengths tb_fields = some (.inr g_IA) → f_X8_isGood (nI k) d x3 x4 x5 x6 (nI n) = some 0 → ∃ (o : (Int32 × Int32 × (Nat → Int32) × (Nat → Int32)) ⊕ String) (o2 : Int32 × Int32 × Int32 × Int32 × (Nat → Int32) × (Nat → Int32)), o = .inr g_IA ∧ o2 = (0, 2, m_count, m_known, m_length, m_first) ∧ f_X7_code (nI f) x2 x3 x4 x5 x6 t_analysed tb_functionCount tb_lengths tb_fields = some o ∧ f_X8_code (nI f) x2 x3 x4 x5 x6 m_code m_own m_count m_known m_length m_first = some o2 := fun a b => ⟨_, _, rfl, rfl, a, bad b⟩
    by_cases hgood : f_X8_isGood (nI k) d x3 x4 x5 x6 (nI n) = some 0 ∧ f_X7_code (nI f) x2 x3 x4 x5 x6 t_analysed tb_functionCount tb_lengths tb_fields = some (.inr g_IA)
    · exact ⟨.inr g_IA, (0, 2, m_count, m_known, m_length, m_first), hgood.2, fun E hE => Or.inr (Or.inl (Sum.inr.inj hE).symm), bad hgood.1, (q_kb2 (by decide)).symm, fun u hu => (by cases hu), hRel⟩
    · by_cases hk12 : 12 < k
      · refine absurd ⟨?_, ?_⟩ hgood
        · unfold f_X8_isGood; rw [if_pos (show 12 < nI k from nI_lt (a := 12) hk12 (by omega))]
        · rw [eX, if_pos (show 12 < nI k from nI_lt (a := 12) hk12 (by omega))]
      · have hk' : ¬ 12 < nI k := nI_nlt (a := 12) (by omega) (by omega)
        rcases pk_ix d (n := 6) (by omega) with h | h | ⟨dd, hdd, rfl⟩
        · refine absurd ⟨?_, ?_⟩ hgood
          · unfold f_X8_isGood; rw [if_neg hk', if_pos h]
          · rw [eX, if_neg hk', if_pos h]
        · have h0 : ¬ d < 0 := q_nlt0 (by omega) h
          have h6 : ¬ d < 6 := q_nlt h
          refine absurd ⟨?_, ?_⟩ hgood
          · unfold f_X8_isGood; rw [if_neg hk', if_neg h0, if_neg h6]
          · rw [eX, if_neg hk', if_neg h0, if_neg h6]
        · have h0 := nI_pos (n := dd) (by omega)
          have h6 : nI dd < 6 := nI_lt (b := 6) hdd (by omega)
          obtain ⟨u1, u2, u3⟩ := q_uses k (by omega)
          have gM : f_X8_isGood (nI k) (nI dd) x3 x4 x5 x6 (nI n) = if nI (usesN k) ≤ 0 then f_X8_isGood_37 (nI k) (nI dd) x3 x4 x5 x6 (nI n) (nI (usesN k)) else (f_X8_isOperand x4).bind (fun o27 => if o27 = 0 then some 0 else f_X8_isGood_37 (nI k) (nI dd) x3 x4 x5 x6 (nI n) (nI (usesN k))) := by
            unfold f_X8_isGood; rw [if_neg hk', if_neg h0, if_pos h6, q_bind u1]
          rcases q_ops u3 (nI k) (nI dd) x3 x4 x5 x6 (nI n) with ⟨b1, b2⟩ | ⟨b0, b1, b2⟩
          · exact absurd ⟨by rw [gM, b2], by rw [eX, if_neg hk', if_neg h0, if_pos h6, q_bind u2, q_bind b1]; rfl⟩ hgood
          · rcases q_fit (k := k) (n := n) (by omega) hn (nI dd) x3 x4 x5 x6 with ⟨c1, c2⟩ | ⟨c3, c4, c5, c1, c2⟩
            · exact absurd ⟨by rw [gM, b2, c2], by rw [eX, if_neg hk', if_neg h0, if_pos h6, q_bind u2, q_bind b1, if_neg (by decide), q_bind c1]; rfl⟩ hgood
            · obtain ⟨w1, w2, w3, w4⟩ := hW.1 f hf
              obtain ⟨v1, v2⟩ := hp f hf
              have eX2 := eX
              rw [if_neg hk', if_neg h0, if_pos h6, q_bind u2, q_bind b1, if_neg (by decide), q_bind c1, if_neg (by decide), q_bind (q_rd (by omega) (by omega)), w3] at eX2
              have eM2 := eM
              rw [gM, b2, q_bind c2, if_neg (by decide), q_bind (q_rd (by omega) (by omega)), v2] at eM2
              by_cases h16 : ln f = 16
              · rw [h16, if_neg (by decide)] at eX2
                rw [h16, if_pos (by decide)] at eM2
                exact ⟨.inr g_IS, _, eX2, fun E hE => Or.inr (Or.inr (Sum.inr.inj hE).symm), eM2, (q_k3 (by decide) (by decide)).symm, fun u hu => (by cases hu), hRel⟩
              · have hl16 : nI (ln f) < 16 := nI_lt (b := 16) (by omega) (by omega)
                have hn16 : ¬ nI (ln f) = 16 := fun q => h16 ((nI_eq (b := 16) (by omega) (by omega)).mp q)
                rw [if_pos hl16] at eX2
                rw [if_neg hn16] at eM2
                have eA : f_X4_addStatement (nI f) (nI k) (nI dd) x3 tb_lengths tb_fields = some (nI (ln f), upd tb_lengths f (nI (ln f + 1)), upd (upd (upd tb_fields (96 * f + 6 * ln f) (nI k)) (96 * f + 6 * ln f + 1) (nI dd)) (96 * f + 6 * ln f + 2) x3) := by
                  unfold f_X4_addStatement
                  rw [q_bind (q_rd (by omega) (by omega)), w3, q_bind (show f_X4_putField (nI f) (nI (ln f)) 0 (nI k) tb_fields = _ from q_putField (w := 0) (by omega) (by omega) (by omega)), q_bind (show f_X4_putField (nI f) (nI (ln f)) 1 (nI dd) _ = _ from q_putField (w := 1) (by omega) (by omega) (by omega)), q_bind (show f_X4_putField (nI f) (nI (ln f)) 2 x3 _ = _ from q_putField (w := 2) (by omega) (by omega) (by omega)), q_bind (q_rd (by omega) (by omega)), w3, nI_1, q_bind (q_wr (by omega) (by omega))]
                  rfl
                rw [q_bind eA] at eX2
                rw [q_bind (show f_X4_putField (nI f) (nI (ln f)) 3 x4 _ = _ from q_putField (w := 3) (by omega) (by omega) (by omega)), q_bind (show f_X4_putField (nI f) (nI (ln f)) 4 x5 _ = _ from q_putField (w := 4) (by omega) (by omega) (by omega)), q_bind (show f_X4_putField (nI f) (nI (ln f)) 5 x6 _ = _ from q_putField (w := 5) (by omega) (by omega) (by omega))] at eX2
                have e96 : ∀ w : Nat, 96 * nI f + 6 * nI (ln f) + nI w = nI (96 * f + 6 * ln f + w) := fun w => q_at96
                have e960 : 96 * nI f + 6 * nI (ln f) = nI (96 * f + 6 * ln f) := by
                  rw [show (96 : Int32) = nI 96 from rfl, show (6 : Int32) = nI 6 from rfl, pk_mul, pk_mul, nI_add]
                have eM3 : f_X8_code_54 (nI f) x2 x3 x4 x5 x6 (nI n) 0 m_code m_count m_known m_length m_first = some (nI (ln f + 1) - 1, 0, nI n, 0, upd m_length f (nI (ln f + 1)), upd6 m_first (96 * f + 6 * ln f) (nI k) (nI dd) x3 x4 x5 x6) := by
                  unfold f_X8_code_54
                  rw [if_pos (by decide), q_bind (q_rd (by omega) (by omega)), v2, e960, q_bind (q_wr (by omega) (by omega)), show nI (96 * f + 6 * ln f) + 1 = nI (96 * f + 6 * ln f + 1) from nI_add _ 1, q_bind (q_wr (by omega) (by omega)), show nI (96 * f + 6 * ln f) + 2 = nI (96 * f + 6 * ln f + 2) from nI_add _ 2, q_bind (q_wr (by omega) (by omega)), show nI (96 * f + 6 * ln f) + 3 = nI (96 * f + 6 * ln f + 3) from nI_add _ 3, q_bind (q_wr (by omega) (by omega)), show nI (96 * f + 6 * ln f) + 4 = nI (96 * f + 6 * ln f + 4) from nI_add _ 4, q_bind (q_wr (by omega) (by omega)), show nI (96 * f + 6 * ln f) + 5 = nI (96 * f + 6 * ln f + 5) from nI_add _ 5, q_bind (q_wr (by omega) (by omega)), q_bind (q_rd (by omega) (by omega)), v2, nI_1, q_bind (q_wr (by omega) (by omega)), ek, ← ed]
                  show (g_rd 12 (upd m_length f (nI (ln f + 1))) (nI f)).bind _ = _
                  rw [q_bind (q_rd (by omega) (by omega)), q_upd_s]
                  rfl
                rw [eM3] at eM2
                have hWS : WS n (upd6 tb_fields (96 * f + 6 * ln f) (nI k) (nI dd) x3 x4 x5 x6) (96 * f + 6 * ln f) := by
                  refine ⟨k, dd, by omega, hdd, upd6_in (w := 0) (by omega), upd6_in (w := 1) (by omega), fun j hj => ?_, fun q => ?_, fun q => ?_, fun q => ?_⟩
                  · rw [show 96 * f + 6 * ln f + 3 + j = 96 * f + 6 * ln f + (3 + j) by omega, upd6_in (by omega)]
                    have := b0 j hj
                    rcases (show j = 0 ∨ j = 1 ∨ j = 2 by omega) with rfl | rfl | rfl <;> exact this
                  · rw [upd6_in (w := 2) (by omega)]; exact c3 q
                  · rw [upd6_in (w := 2) (by omega)]; exact c4 q
                  · rw [upd6_in (w := 2) (by omega)]; exact c5 q
                refine ⟨_, _, eX2, fun E hE => (by cases hE), eM2, rfl, fun u hu => (by cases hu; exact (nI_pred (ln f)).symm), ⟨n, e, pn, nup ln f (ln f + 1), hn, he, h1, h2, h3, h4, q_WP_code hW hf (by omega) hWS, fun g hg => ?_, fun g hg i hi w hw => ?_, htb⟩, Or.inl ⟨rfl, rfl, h2.symm⟩, hI, hT, hF⟩
                · refine ⟨(hp g hg).1, ?_⟩
                  show upd m_length f (nI (ln f + 1)) g = _
                  by_cases hgf : g = f
                  · subst hgf; rw [nup_s, q_upd_s]
                  · rw [nup_n hgf, q_upd_n hgf]; exact (hp g hg).2
                · show upd6 m_first (96 * f + 6 * ln f) (nI k) (nI dd) x3 x4 x5 x6 (96 * g + 6 * i + w) = upd6 tb_fields (96 * f + 6 * ln f) (nI k) (nI dd) x3 x4 x5 x6 (96 * g + 6 * i + w)
                  by_cases hgf : g = f
                  · subst hgf
                    rw [nup_s] at hi
                    by_cases hie : i = ln g
                    · subst hie; rw [upd6_in hw, upd6_in hw]
                    · rw [upd6_out (by omega), upd6_out (by omega)]; exact hfl g hg i (by omega) w hw
                  · rw [nup_n hgf] at hi
                    have hgl := (hW.1 g hg).2.2.2
                    rw [upd6_out (by omega), upd6_out (by omega)]; exact hfl g hg i hi w hw


set_option maxHeartbeats 4000000 in
theorem op_table {N : Nat} (hN : 20000 ≤ N) {t_analysed : Int32} {tb_functionCount : Int32} {tb_entryCount : Int32} {tb_parameterCounts : Nat → Int32} {tb_lengths : Nat → Int32} {tb_fields : Nat → Int32} {tb_entries : Nat → Int32} {ta_functionCount : Int32} {ta_entryCount : Int32} {ta_parameterCounts : Nat → Int32} {ta_lengths : Nat → Int32} {ta_fields : Nat → Int32} {ta_entries : Nat → Int32} {tk_comeTo : Nat → Int32} {tk_any : Nat → Int32} {tk_numbers : Nat → Int32} {tf_waitingCount : Int32} {tfr_any : Nat → Int32} {tfr_numbers : Nat → Int32} {tf_isWaiting : Nat → Int32} {tf_waiting : Nat → Int32} {ty_doneCount : Int32} {ty_outputCount : Int32} {ty_outputValues : Nat → Int32} {ty_callCounts : Nat → Int32} {ty_latestValues : Nat → Int32} {ty_differing : Nat → Int32} {th_inputCount : Int32} {th_inputsRead : Int32} {th_openCount : Int32} {th_inputs : Nat → Int32} {th_openFunctions : Nat → Int32} {th_openStatements : Nat → Int32} {th_registers : Nat → Int32} {m_code : Int32} {m_own : Int32} {m_count : Int32} {m_tableSize : Int32} {m_given : Int32} {m_known : Int32} {m_news : Int32} {m_depth : Int32} {m_steps : Int32} {m_taken : Int32} {m_shown : Int32} {m_outcome : Int32} {m_parameters : Nat → Int32} {m_length : Nat → Int32} {m_newLength : Nat → Int32} {m_first : Nat → Int32} {m_now : Nat → Int32} {m_anew : Nat → Int32} {m_table : Nat → Int32} {m_inputs : Nat → Int32} {m_met : Nat → Int32} {m_any : Nat → Int32} {m_number : Nat → Int32} {m_outAny : Nat → Int32} {m_out : Nat → Int32} {m_at : Nat → Int32} {m_in : Nat → Int32} {m_back : Nat → Int32} {m_register : Nat → Int32} {m_output : Nat → Int32} {m_calls : Nat → Int32} {m_latest : Nat → Int32} {m_differ : Nat → Int32} (hRel : Rel t_analysed tb_functionCount tb_entryCount tb_parameterCounts tb_lengths tb_fields tb_entries ta_functionCount ta_entryCount ta_parameterCounts ta_lengths ta_fields ta_entries tk_comeTo tk_any tk_numbers tf_waitingCount tfr_any tfr_numbers tf_isWaiting tf_waiting ty_doneCount ty_outputCount ty_outputValues ty_callCounts ty_latestValues ty_differing th_inputCount th_inputsRead th_openCount th_inputs th_openFunctions th_openStatements th_registers m_code m_own m_count m_tableSize m_given m_known m_news m_depth m_steps m_taken m_shown m_outcome m_parameters m_length m_newLength m_first m_now m_anew m_table m_inputs m_met m_any m_number m_outAny m_out m_at m_in m_back m_register m_output m_calls m_latest m_differ) (x1 : Int32) : ∃ (o : (Int32 × Int32 × Int32 × (Nat → Int32)) ⊕ String) (o2 : Int32 × Int32 × Int32 × Int32 × Int32 × (Nat → Int32)), f_X7_table x1 t_analysed tb_functionCount tb_entryCount tb_entries = some o ∧ (∀ E, o = .inr E → E = g_IO ∨ E = g_IS) ∧ f_X8_table x1 m_code m_own m_count m_tableSize m_known m_table = some o2 ∧ o2.2.1 = g_kk [g_IO, g_IS] o ∧ (∀ u, o = .inl u → u.1 = o2.1) ∧ Rel (g_p o (fun u => u.2.1) t_analysed) tb_functionCount (g_p o (fun u => u.2.2.1) tb_entryCount) tb_parameterCounts tb_lengths tb_fields (g_p o (fun u => u.2.2.2) tb_entries) ta_functionCount ta_entryCount ta_parameterCounts ta_lengths ta_fields ta_entries tk_comeTo tk_any tk_numbers tf_waitingCount tfr_any tfr_numbers tf_isWaiting tf_waiting ty_doneCount ty_outputCount ty_outputValues ty_callCounts ty_latestValues ty_differing th_inputCount th_inputsRead th_openCount th_inputs th_openFunctions th_openStatements th_registers o2.2.1 m_own o2.2.2.1 o2.2.2.2.1 m_given o2.2.2.2.2.1 m_news m_depth m_steps m_taken m_shown m_outcome m_parameters m_length m_newLength m_first m_now m_anew o2.2.2.2.2.2 m_inputs m_met m_any m_number m_outAny m_out m_at m_in m_back m_register m_output m_calls m_latest m_differ := by
  obtain ⟨⟨n, e, pn, ln, hn, he, h1, h2, h3, h4, hW, hp, hfl, htb⟩, hK, hI, hT, hF⟩ := id hRel
  rcases q_hasF x1 (n := n) (by omega) with ⟨a1, a2⟩ | ⟨f, hf, rfl, a1, a2⟩
  · refine ⟨.inr g_IO, (0, 1, m_count, m_tableSize, m_known, m_table), ?_, fun E hE => Or.inl (Sum.inr.inj hE).symm, ?_, rfl, fun u hu => (by cases hu), hRel⟩
    · unfold f_X7_table; rw [h1, q_bind a1]; rfl
    · unfold f_X8_table; rw [h2, q_bind a2]; rfl
  · by_cases h4e : e = 4
    · subst h4e
      refine ⟨.inr g_IS, (0, 2, m_count, m_tableSize, m_known, m_table), ?_, fun E hE => Or.inr (Sum.inr.inj hE).symm, ?_, q_kI.symm, fun u hu => (by cases hu), hRel⟩
      · unfold f_X7_table; rw [h1, q_bind a1, if_neg (by decide), h3, if_neg (by decide)]
      · unfold f_X8_table; rw [h2, q_bind a2, if_neg (by decide), h4, if_pos (by decide)]; rfl
    · have hl : nI e < 4 := nI_lt (b := 4) (by omega) (by omega)
      have hne : ¬ nI e = 4 := fun q => h4e ((nI_eq (b := 4) (by omega) (by omega)).mp q)
      refine ⟨.inl (nI e + 1, 0, nI e + 1, upd tb_entries e (nI f)), (nI e + 1, 0, nI n, nI e + 1, 0, upd m_table e (nI f)), ?_, fun E hE => (by cases hE), ?_, rfl, fun u hu => (by cases hu; rfl), ⟨n, e + 1, pn, ln, hn, by omega, h1, h2, nI_1 e, nI_1 e, q_WP_tab hW hf, hp, hfl, fun j hj => ?_⟩, Or.inl ⟨rfl, rfl, h2.symm⟩, hI, hT, hF⟩
      · unfold f_X7_table; rw [h1, q_bind a1, if_neg (by decide), h3, if_pos hl]; unfold f_X4_addEntry; rw [q_bind (q_wr (by omega) (by omega))]; rfl
      · unfold f_X8_table; rw [h2, q_bind a2, if_neg (by decide), h4, if_neg hne]; unfold f_X8_table_26; rw [if_pos (by decide), q_bind (q_wr (by omega) (by omega))]; rfl
      · show upd m_table e (nI f) j = upd tb_entries e (nI f) j
        by_cases hje : j = e
        · subst hje; rw [q_upd_s, q_upd_s]
        · rw [q_upd_n hje, q_upd_n hje]; exact htb j (by omega)


set_option maxHeartbeats 4000000 in
theorem op_input {N : Nat} (hN : 20000 ≤ N) {t_analysed : Int32} {tb_functionCount : Int32} {tb_entryCount : Int32} {tb_parameterCounts : Nat → Int32} {tb_lengths : Nat → Int32} {tb_fields : Nat → Int32} {tb_entries : Nat → Int32} {ta_functionCount : Int32} {ta_entryCount : Int32} {ta_parameterCounts : Nat → Int32} {ta_lengths : Nat → Int32} {ta_fields : Nat → Int32} {ta_entries : Nat → Int32} {tk_comeTo : Nat → Int32} {tk_any : Nat → Int32} {tk_numbers : Nat → Int32} {tf_waitingCount : Int32} {tfr_any : Nat → Int32} {tfr_numbers : Nat → Int32} {tf_isWaiting : Nat → Int32} {tf_waiting : Nat → Int32} {ty_doneCount : Int32} {ty_outputCount : Int32} {ty_outputValues : Nat → Int32} {ty_callCounts : Nat → Int32} {ty_latestValues : Nat → Int32} {ty_differing : Nat → Int32} {th_inputCount : Int32} {th_inputsRead : Int32} {th_openCount : Int32} {th_inputs : Nat → Int32} {th_openFunctions : Nat → Int32} {th_openStatements : Nat → Int32} {th_registers : Nat → Int32} {m_code : Int32} {m_own : Int32} {m_count : Int32} {m_tableSize : Int32} {m_given : Int32} {m_known : Int32} {m_news : Int32} {m_depth : Int32} {m_steps : Int32} {m_taken : Int32} {m_shown : Int32} {m_outcome : Int32} {m_parameters : Nat → Int32} {m_length : Nat → Int32} {m_newLength : Nat → Int32} {m_first : Nat → Int32} {m_now : Nat → Int32} {m_anew : Nat → Int32} {m_table : Nat → Int32} {m_inputs : Nat → Int32} {m_met : Nat → Int32} {m_any : Nat → Int32} {m_number : Nat → Int32} {m_outAny : Nat → Int32} {m_out : Nat → Int32} {m_at : Nat → Int32} {m_in : Nat → Int32} {m_back : Nat → Int32} {m_register : Nat → Int32} {m_output : Nat → Int32} {m_calls : Nat → Int32} {m_latest : Nat → Int32} {m_differ : Nat → Int32} (hRel : Rel t_analysed tb_functionCount tb_entryCount tb_parameterCounts tb_lengths tb_fields tb_entries ta_functionCount ta_entryCount ta_parameterCounts ta_lengths ta_fields ta_entries tk_comeTo tk_any tk_numbers tf_waitingCount tfr_any tfr_numbers tf_isWaiting tf_waiting ty_doneCount ty_outputCount ty_outputValues ty_callCounts ty_latestValues ty_differing th_inputCount th_inputsRead th_openCount th_inputs th_openFunctions th_openStatements th_registers m_code m_own m_count m_tableSize m_given m_known m_news m_depth m_steps m_taken m_shown m_outcome m_parameters m_length m_newLength m_first m_now m_anew m_table m_inputs m_met m_any m_number m_outAny m_out m_at m_in m_back m_register m_output m_calls m_latest m_differ) (x1 : Int32) : ∃ (o : Int32 × Int32 × (Nat → Int32)) (o2 : Int32 × Int32 × Int32 × (Nat → Int32)), f_X7_input x1 th_inputCount th_inputs = some o ∧ f_X8_input x1 m_code m_given m_inputs = some o2 ∧ o.1 = o2.1 ∧ Rel t_analysed tb_functionCount tb_entryCount tb_parameterCounts tb_lengths tb_fields tb_entries ta_functionCount ta_entryCount ta_parameterCounts ta_lengths ta_fields ta_entries tk_comeTo tk_any tk_numbers tf_waitingCount tfr_any tfr_numbers tf_isWaiting tf_waiting ty_doneCount ty_outputCount ty_outputValues ty_callCounts ty_latestValues ty_differing o.2.1 th_inputsRead th_openCount o.2.2 th_openFunctions th_openStatements th_registers o2.2.1 m_own m_count m_tableSize o2.2.2.1 m_known m_news m_depth m_steps m_taken m_shown m_outcome m_parameters m_length m_newLength m_first m_now m_anew m_table o2.2.2.2 m_met m_any m_number m_outAny m_out m_at m_in m_back m_register m_output m_calls m_latest m_differ := by
  obtain ⟨hB, hK, ⟨g, hg, h1, h2, h3⟩, hT, hF⟩ := hRel
  by_cases h : g = 12
  · subst h
    refine ⟨(-1, nI 12, th_inputs), (-1, 0, nI 12, m_inputs), ?_, ?_, rfl, hB, hK, ⟨12, by omega, rfl, rfl, h3⟩, hT, hF⟩
    · unfold f_X7_input f_X2_addInput; rw [h1, if_neg (by decide)]; rfl
    · unfold f_X8_input; rw [h2, if_pos (by decide)]
  · have hl : nI g < 12 := nI_lt (b := 12) (by omega) (by omega)
    have hne : ¬ nI g = 12 := fun q => h ((nI_eq (b := 12) (by omega) (by omega)).mp q)
    refine ⟨(nI g + 1, nI g + 1, upd th_inputs g x1), (nI g + 1, 0, nI g + 1, upd m_inputs g x1), ?_, ?_, rfl, hB, hK, ?_, hT, hF⟩
    · unfold f_X7_input f_X2_addInput; rw [h1, if_pos hl, q_wr (by omega) (by omega)]; rfl
    · unfold f_X8_input; rw [h2, if_neg hne, q_wr (by omega) (by omega)]; rfl
    · refine ⟨g + 1, by omega, nI_1 g, nI_1 g, fun j hj => ?_⟩
      by_cases hjg : j = g
      · subst hjg; show upd th_inputs j x1 j = upd m_inputs j x1 j; rw [q_upd_s, q_upd_s]
      · show upd th_inputs g x1 j = upd m_inputs g x1 j; rw [q_upd_n hjg, q_upd_n hjg]; exact h3 j (by omega)


set_option maxHeartbeats 4000000 in
theorem op_empty {N : Nat} (hN : 20000 ≤ N) {t_analysed : Int32} {tb_functionCount : Int32} {tb_entryCount : Int32} {tb_parameterCounts : Nat → Int32} {tb_lengths : Nat → Int32} {tb_fields : Nat → Int32} {tb_entries : Nat → Int32} {ta_functionCount : Int32} {ta_entryCount : Int32} {ta_parameterCounts : Nat → Int32} {ta_lengths : Nat → Int32} {ta_fields : Nat → Int32} {ta_entries : Nat → Int32} {tk_comeTo : Nat → Int32} {tk_any : Nat → Int32} {tk_numbers : Nat → Int32} {tf_waitingCount : Int32} {tfr_any : Nat → Int32} {tfr_numbers : Nat → Int32} {tf_isWaiting : Nat → Int32} {tf_waiting : Nat → Int32} {ty_doneCount : Int32} {ty_outputCount : Int32} {ty_outputValues : Nat → Int32} {ty_callCounts : Nat → Int32} {ty_latestValues : Nat → Int32} {ty_differing : Nat → Int32} {th_inputCount : Int32} {th_inputsRead : Int32} {th_openCount : Int32} {th_inputs : Nat → Int32} {th_openFunctions : Nat → Int32} {th_openStatements : Nat → Int32} {th_registers : Nat → Int32} {m_code : Int32} {m_own : Int32} {m_count : Int32} {m_tableSize : Int32} {m_given : Int32} {m_known : Int32} {m_news : Int32} {m_depth : Int32} {m_steps : Int32} {m_taken : Int32} {m_shown : Int32} {m_outcome : Int32} {m_parameters : Nat → Int32} {m_length : Nat → Int32} {m_newLength : Nat → Int32} {m_first : Nat → Int32} {m_now : Nat → Int32} {m_anew : Nat → Int32} {m_table : Nat → Int32} {m_inputs : Nat → Int32} {m_met : Nat → Int32} {m_any : Nat → Int32} {m_number : Nat → Int32} {m_outAny : Nat → Int32} {m_out : Nat → Int32} {m_at : Nat → Int32} {m_in : Nat → Int32} {m_back : Nat → Int32} {m_register : Nat → Int32} {m_output : Nat → Int32} {m_calls : Nat → Int32} {m_latest : Nat → Int32} {m_differ : Nat → Int32} (hRel : Rel t_analysed tb_functionCount tb_entryCount tb_parameterCounts tb_lengths tb_fields tb_entries ta_functionCount ta_entryCount ta_parameterCounts ta_lengths ta_fields ta_entries tk_comeTo tk_any tk_numbers tf_waitingCount tfr_any tfr_numbers tf_isWaiting tf_waiting ty_doneCount ty_outputCount ty_outputValues ty_callCounts ty_latestValues ty_differing th_inputCount th_inputsRead th_openCount th_inputs th_openFunctions th_openStatements th_registers m_code m_own m_count m_tableSize m_given m_known m_news m_depth m_steps m_taken m_shown m_outcome m_parameters m_length m_newLength m_first m_now m_anew m_table m_inputs m_met m_any m_number m_outAny m_out m_at m_in m_back m_register m_output m_calls m_latest m_differ) : ∃ (o : Int32) (o2 : Int32 × Int32), f_X7_empty th_inputCount = some o ∧ f_X8_empty m_code m_given = some o2 ∧ Rel t_analysed tb_functionCount tb_entryCount tb_parameterCounts tb_lengths tb_fields tb_entries ta_functionCount ta_entryCount ta_parameterCounts ta_lengths ta_fields ta_entries tk_comeTo tk_any tk_numbers tf_waitingCount tfr_any tfr_numbers tf_isWaiting tf_waiting ty_doneCount ty_outputCount ty_outputValues ty_callCounts ty_latestValues ty_differing o th_inputsRead th_openCount th_inputs th_openFunctions th_openStatements th_registers o2.1 m_own m_count m_tableSize o2.2 m_known m_news m_depth m_steps m_taken m_shown m_outcome m_parameters m_length m_newLength m_first m_now m_anew m_table m_inputs m_met m_any m_number m_outAny m_out m_at m_in m_back m_register m_output m_calls m_latest m_differ := by
  obtain ⟨hB, hK, ⟨g, hg, h1, h2, h3⟩, hT, hF⟩ := hRel
  exact ⟨_, _, rfl, rfl, hB, hK, ⟨0, by omega, rfl, rfl, fun j h => absurd h (Nat.not_lt_zero j)⟩, hT, hF⟩


set_option maxHeartbeats 4000000 in
theorem op_analyse {N : Nat} (hN : 20000 ≤ N) {t_analysed : Int32} {tb_functionCount : Int32} {tb_entryCount : Int32} {tb_parameterCounts : Nat → Int32} {tb_lengths : Nat → Int32} {tb_fields : Nat → Int32} {tb_entries : Nat → Int32} {ta_functionCount : Int32} {ta_entryCount : Int32} {ta_parameterCounts : Nat → Int32} {ta_lengths : Nat → Int32} {ta_fields : Nat → Int32} {ta_entries : Nat → Int32} {tk_comeTo : Nat → Int32} {tk_any : Nat → Int32} {tk_numbers : Nat → Int32} {tf_waitingCount : Int32} {tfr_any : Nat → Int32} {tfr_numbers : Nat → Int32} {tf_isWaiting : Nat → Int32} {tf_waiting : Nat → Int32} {ty_doneCount : Int32} {ty_outputCount : Int32} {ty_outputValues : Nat → Int32} {ty_callCounts : Nat → Int32} {ty_latestValues : Nat → Int32} {ty_differing : Nat → Int32} {th_inputCount : Int32} {th_inputsRead : Int32} {th_openCount : Int32} {th_inputs : Nat → Int32} {th_openFunctions : Nat → Int32} {th_openStatements : Nat → Int32} {th_registers : Nat → Int32} {m_code : Int32} {m_own : Int32} {m_count : Int32} {m_tableSize : Int32} {m_given : Int32} {m_known : Int32} {m_news : Int32} {m_depth : Int32} {m_steps : Int32} {m_taken : Int32} {m_shown : Int32} {m_outcome : Int32} {m_parameters : Nat → Int32} {m_length : Nat → Int32} {m_newLength : Nat → Int32} {m_first : Nat → Int32} {m_now : Nat → Int32} {m_anew : Nat → Int32} {m_table : Nat → Int32} {m_inputs : Nat → Int32} {m_met : Nat → Int32} {m_any : Nat → Int32} {m_number : Nat → Int32} {m_outAny : Nat → Int32} {m_out : Nat → Int32} {m_at : Nat → Int32} {m_in : Nat → Int32} {m_back : Nat → Int32} {m_register : Nat → Int32} {m_output : Nat → Int32} {m_calls : Nat → Int32} {m_latest : Nat → Int32} {m_differ : Nat → Int32} (hRel : Rel t_analysed tb_functionCount tb_entryCount tb_parameterCounts tb_lengths tb_fields tb_entries ta_functionCount ta_entryCount ta_parameterCounts ta_lengths ta_fields ta_entries tk_comeTo tk_any tk_numbers tf_waitingCount tfr_any tfr_numbers tf_isWaiting tf_waiting ty_doneCount ty_outputCount ty_outputValues ty_callCounts ty_latestValues ty_differing th_inputCount th_inputsRead th_openCount th_inputs th_openFunctions th_openStatements th_registers m_code m_own m_count m_tableSize m_given m_known m_news m_depth m_steps m_taken m_shown m_outcome m_parameters m_length m_newLength m_first m_now m_anew m_table m_inputs m_met m_any m_number m_outAny m_out m_at m_in m_back m_register m_output m_calls m_latest m_differ) (x1 : Int32) : ∃ (o : (Int32 × Int32 × Int32 × Int32 × (Nat → Int32) × (Nat → Int32) × (Nat → Int32) × (Nat → Int32) × (Nat → Int32) × (Nat → Int32) × (Nat → Int32) × Int32 × (Nat → Int32) × (Nat → Int32) × (Nat → Int32) × (Nat → Int32)) ⊕ String) (o2 : Int32 × Int32 × Int32 × Int32 × Int32 × (Nat → Int32) × (Nat → Int32) × (Nat → Int32) × (Nat → Int32) × (Nat → Int32) × (Nat → Int32) × (Nat → Int32) × (Nat → Int32) × (Nat → Int32) × (Nat → Int32)), f_X7_analyse N x1 t_analysed tb_functionCount tb_entryCount tb_parameterCounts tb_lengths tb_fields tb_entries ta_functionCount ta_entryCount ta_parameterCounts ta_lengths ta_fields ta_entries tk_comeTo tk_any tk_numbers tf_waitingCount tfr_any tfr_numbers tf_isWaiting tf_waiting = some o ∧ (∀ E, o = .inr E → E = g_IA ∨ E = g_IS) ∧ f_X8_analyse N x1 m_code m_own m_count m_tableSize m_known m_news m_parameters m_length m_newLength m_first m_now m_anew m_table m_met m_any m_number m_outAny m_out = some o2 ∧ o2.2.1 = g_kk [g_IA, g_IS] o ∧ (∀ u, o = .inl u → u.1 = o2.1) ∧ Rel (g_p o (fun u => u.2.1) t_analysed) tb_functionCount tb_entryCount tb_parameterCounts tb_lengths tb_fields tb_entries (g_p o (fun u => u.2.2.1) ta_functionCount) (g_p o (fun u => u.2.2.2.1) ta_entryCount) (g_p o (fun u => u.2.2.2.2.1) ta_parameterCounts) (g_p o (fun u => u.2.2.2.2.2.1) ta_lengths) (g_p o (fun u => u.2.2.2.2.2.2.1) ta_fields) (g_p o (fun u => u.2.2.2.2.2.2.2.1) ta_entries) (g_p o (fun u => u.2.2.2.2.2.2.2.2.1) tk_comeTo) (g_p o (fun u => u.2.2.2.2.2.2.2.2.2.1) tk_any) (g_p o (fun u => u.2.2.2.2.2.2.2.2.2.2.1) tk_numbers) (g_p o (fun u => u.2.2.2.2.2.2.2.2.2.2.2.1) tf_waitingCount) (g_p o (fun u => u.2.2.2.2.2.2.2.2.2.2.2.2.1) tfr_any) (g_p o (fun u => u.2.2.2.2.2.2.2.2.2.2.2.2.2.1) tfr_numbers) (g_p o (fun u => u.2.2.2.2.2.2.2.2.2.2.2.2.2.2.1) tf_isWaiting) (g_p o (fun u => u.2.2.2.2.2.2.2.2.2.2.2.2.2.2.2) tf_waiting) ty_doneCount ty_outputCount ty_outputValues ty_callCounts ty_latestValues ty_differing th_inputCount th_inputsRead th_openCount th_inputs th_openFunctions th_openStatements th_registers o2.2.1 m_own o2.2.2.1 m_tableSize m_given o2.2.2.2.1 o2.2.2.2.2.1 m_depth m_steps m_taken m_shown m_outcome o2.2.2.2.2.2.1 o2.2.2.2.2.2.2.1 o2.2.2.2.2.2.2.2.1 m_first o2.2.2.2.2.2.2.2.2.1 o2.2.2.2.2.2.2.2.2.2.1 m_table m_inputs o2.2.2.2.2.2.2.2.2.2.2.1 o2.2.2.2.2.2.2.2.2.2.2.2.1 o2.2.2.2.2.2.2.2.2.2.2.2.2.1 o2.2.2.2.2.2.2.2.2.2.2.2.2.2.1 o2.2.2.2.2.2.2.2.2.2.2.2.2.2.2 m_at m_in m_back m_register m_output m_calls m_latest m_differ := by
  obtain ⟨⟨n, e, pn, ln, hn, he, h1, h2, h3, h4, hW, hp, hfl, htb⟩, hK, hI, hT, hF⟩ := id hRel
  refine Classical.byContradiction (fun hgoal => ?_)
  have bad : ∀ (E : String) (c : Int32), (E = g_IA ∧ c = 1) ∨ (E = g_IS ∧ c = 2) → f_X7_analyse N x1 t_analysed tb_functionCount tb_entryCount tb_parameterCounts tb_lengths tb_fields tb_entries ta_functionCount ta_entryCount ta_parameterCounts ta_lengths ta_fields ta_entries tk_comeTo tk_any tk_numbers tf_waitingCount tfr_any tfr_numbers tf_isWaiting tf_waiting = some (.inr E) → f_X8_analyse N x1 m_code m_own m_count m_tableSize m_known m_news m_parameters m_length m_newLength m_first m_now m_anew m_table m_met m_any m_number m_outAny m_out = some (0, c, m_count, m_known, m_news, m_parameters, m_length, m_newLength, m_now, m_anew, m_met, m_any, m_number, m_outAny, m_out) → False := fun E c hc a b => hgoal ⟨.inr E, _, a, fun E' hE' => by
      have := (Sum.inr.inj hE').symm
      rcases hc with ⟨q, _⟩ | ⟨q, _⟩
      · exact Or.inl (this.trans q)
      · exact Or.inr (this.trans q), b, by
      rcases hc with ⟨rfl, rfl⟩ | ⟨rfl, rfl⟩
      · exact q_kb1.symm
      · exact q_k2.symm, fun u hu => (by cases hu), hRel⟩
  rcases pk_ix x1 (n := 7) (by omega) with h | h | ⟨copies, hc, rfl⟩
  · refine bad g_IA 1 (Or.inl ⟨rfl, rfl⟩) ?_ ?_
    · unfold f_X7_analyse; rw [if_pos h]
    · unfold f_X8_analyse; rw [if_pos h]; rfl
  · have h0 : ¬ x1 < 0 := q_nlt0 (by omega) h
    have h6 : ¬ x1 ≤ 6 := fun q => Int32.lt_irrefl (Int32.lt_of_lt_of_le (show (6 : Int32) < nI 7 by decide) (Int32.le_trans h q))
    refine bad g_IA 1 (Or.inl ⟨rfl, rfl⟩) ?_ ?_
    · unfold f_X7_analyse; rw [if_neg h0, if_neg h6]
    · unfold f_X8_analyse; rw [if_neg h0, if_neg h6]; rfl
  · have h0 : ¬ nI copies < 0 := nI_pos (by omega)
    have h6 : nI copies ≤ 6 := nI_le (b := 6) (by omega) (by omega)
    by_cases hn0 : n = 0
    · refine bad g_IS 2 (Or.inr ⟨rfl, rfl⟩) ?_ ?_
      · unfold f_X7_analyse; rw [if_neg h0, if_pos h6, h1, hn0]; rfl
      · unfold f_X8_analyse; rw [if_neg h0, if_pos h6, if_pos (show m_own = 0 by rw [h2, hn0]; rfl)]
    · have hF0 : f_X4_hasFunction 0 (nI n) = some 1 := by
        unfold f_X4_hasFunction; rw [if_neg (by decide), if_neg (nI_nle (by omega) (by omega))]
      have hown : ¬ nI n = 0 := nI_ne0 (by omega) (by omega)
      obtain ⟨z1, z2, z3, z4, z5, z6, z7, z8, z9, z10⟩ := hF
      obtain ⟨pc, ls, F, en, k1, k2, k3, k4⟩ := q_like ta_functionCount ta_entryCount (nI n) (nI e) ta_parameterCounts ta_lengths ta_fields ta_entries tb_parameterCounts tb_lengths tb_fields tb_entries
      have hW1 : WP n pn ln pc ls F e en := WP_congr hW (fun f hf => k2 f (by omega)) (fun x hx => k3 x (by omega)) (fun j hj => k4 j (by omega))
      obtain ⟨now, o1, o2⟩ := q_a49 hn N (nI copies) (nI e) m_first m_table 0 (nI n) m_known m_news m_parameters m_length m_newLength m_anew m_met m_any m_number m_outAny m_out (96 * n) 0 (N - 96 * n - 1) m_now (by omega) (fun y hy => absurd hy (Nat.not_lt_zero y))
      rw [show N - 96 * n - 1 + 1 + 96 * n = N by omega] at o2
      have hR1 : RP n ln pn F e en m_parameters m_length now m_table := ⟨hp, fun f hf i hi w hw => by
        have := (hW.1 f hf).2.2.2
        rw [o1 _ (by omega), k3 _ (by omega)]; exact hfl f hf i hi w hw, fun j hj => by rw [k4 j (by omega)]; exact htb j hj⟩
      obtain ⟨ct3, an3, nu3, ra3, rn3, iw3, wt3, f1, f2, f3, f4, f5, f6, f7⟩ := q_findC hW1 (by omega) (by omega) he hN tk_comeTo tk_numbers tfr_numbers tf_waiting z4 z5 z2
      obtain ⟨ct3', an3', nu3', oa3, ou3, l1, l2, l3, l4, l5⟩ := q_learnR hW1 hR1 (by omega) (by omega) he hN m_news m_number m_out z7 z8 z9
      obtain ⟨c, news2, n2, pc4, ls4, F4, ct4, an4, nu4, ra4, rn4, iw4, wt4, par4, len4, nlen4, now4, anew4, ct4', an4', nu4', oa4, ou4, y1, y2, y3, y4, y5, y6, y7, y8, y9, y10, y11⟩ := q_anal (own := n) (copies := copies) (by omega) hn (by omega) he hN en m_table m_first tb_parameterCounts tb_lengths tb_fields tb_entries (nI n) (nI e) t_analysed 0 m_known copies 0 (N - copies - 1) (N - copies - 1) pn ln pc ls F m_parameters m_length now ct3 an3 nu3 ct3' an3' nu3' ra3 rn3 iw3 wt3 m_newLength m_anew oa3 ou3 0 (by omega) hW1 hR1 (KE_of (by omega) f3 l3.1 f6 f7 l4 l5) f6 f7 f3 f4 l3 f2 f5 l2
      rw [show N - copies - 1 + 1 + copies = N by omega] at y1 y2
      have C : f_X7_analyse N (nI copies) t_analysed tb_functionCount tb_entryCount tb_parameterCounts tb_lengths tb_fields tb_entries ta_functionCount ta_entryCount ta_parameterCounts ta_lengths ta_fields ta_entries tk_comeTo tk_any tk_numbers tf_waitingCount tfr_any tfr_numbers tf_isWaiting tf_waiting = some (.inl (c, 1, nI n2, nI e, pc4, ls4, F4, en, ct4, an4, nu4, 0, ra4, rn4, iw4, wt4)) := by
        unfold f_X7_analyse
        rw [if_neg h0, if_pos h6, h1, h3, z1, q_bind hF0, if_neg (show ¬ (1 : Int32) = 0 by decide), q_bind k1]
        show (f_X0_find N 0 (nI e) pc ls F en tk_comeTo tk_any tk_numbers tfr_any tfr_numbers tf_isWaiting tf_waiting).bind _ = _
        rw [q_bind f1]
        exact y1
      have R : f_X8_analyse N (nI copies) m_code m_own m_count m_tableSize m_known m_news m_parameters m_length m_newLength m_first m_now m_anew m_table m_met m_any m_number m_outAny m_out = some (c, 0, nI n2, 1, news2, par4, len4, nlen4, now4, anew4, ct4', an4', nu4', oa4, ou4) := by
        unfold f_X8_analyse
        rw [if_neg h0, if_pos h6, h2, h4, if_neg hown]
        refine Eq.trans o2 ?_
        rw [q_bind l1]
        exact y2
      refine hgoal ⟨_, _, C, fun E hE => (by cases hE), R, rfl, fun u hu => (by cases hu; rfl), ⟨n, e, pn, ln, hn, he, h1, h2, h3, h4, hW, fun f hf => ?_, hfl, htb⟩, Or.inr ⟨rfl, rfl, by rw [h2]; exact hown, ?_⟩, hI, hT, rfl, y7, y4, y5, y6, z6, y8, y9, y10, z10⟩
      · show par4 f = nI (pn f) ∧ len4 f = nI (ln f)
        rw [(y11 f hf).1, (y11 f hf).2]; exact hp f hf
      · rw [h4]; exact y3


set_option maxHeartbeats 4000000 in
theorem op_functions {N : Nat} (hN : 20000 ≤ N) {t_analysed : Int32} {tb_functionCount : Int32} {tb_entryCount : Int32} {tb_parameterCounts : Nat → Int32} {tb_lengths : Nat → Int32} {tb_fields : Nat → Int32} {tb_entries : Nat → Int32} {ta_functionCount : Int32} {ta_entryCount : Int32} {ta_parameterCounts : Nat → Int32} {ta_lengths : Nat → Int32} {ta_fields : Nat → Int32} {ta_entries : Nat → Int32} {tk_comeTo : Nat → Int32} {tk_any : Nat → Int32} {tk_numbers : Nat → Int32} {tf_waitingCount : Int32} {tfr_any : Nat → Int32} {tfr_numbers : Nat → Int32} {tf_isWaiting : Nat → Int32} {tf_waiting : Nat → Int32} {ty_doneCount : Int32} {ty_outputCount : Int32} {ty_outputValues : Nat → Int32} {ty_callCounts : Nat → Int32} {ty_latestValues : Nat → Int32} {ty_differing : Nat → Int32} {th_inputCount : Int32} {th_inputsRead : Int32} {th_openCount : Int32} {th_inputs : Nat → Int32} {th_openFunctions : Nat → Int32} {th_openStatements : Nat → Int32} {th_registers : Nat → Int32} {m_code : Int32} {m_own : Int32} {m_count : Int32} {m_tableSize : Int32} {m_given : Int32} {m_known : Int32} {m_news : Int32} {m_depth : Int32} {m_steps : Int32} {m_taken : Int32} {m_shown : Int32} {m_outcome : Int32} {m_parameters : Nat → Int32} {m_length : Nat → Int32} {m_newLength : Nat → Int32} {m_first : Nat → Int32} {m_now : Nat → Int32} {m_anew : Nat → Int32} {m_table : Nat → Int32} {m_inputs : Nat → Int32} {m_met : Nat → Int32} {m_any : Nat → Int32} {m_number : Nat → Int32} {m_outAny : Nat → Int32} {m_out : Nat → Int32} {m_at : Nat → Int32} {m_in : Nat → Int32} {m_back : Nat → Int32} {m_register : Nat → Int32} {m_output : Nat → Int32} {m_calls : Nat → Int32} {m_latest : Nat → Int32} {m_differ : Nat → Int32} (hRel : Rel t_analysed tb_functionCount tb_entryCount tb_parameterCounts tb_lengths tb_fields tb_entries ta_functionCount ta_entryCount ta_parameterCounts ta_lengths ta_fields ta_entries tk_comeTo tk_any tk_numbers tf_waitingCount tfr_any tfr_numbers tf_isWaiting tf_waiting ty_doneCount ty_outputCount ty_outputValues ty_callCounts ty_latestValues ty_differing th_inputCount th_inputsRead th_openCount th_inputs th_openFunctions th_openStatements th_registers m_code m_own m_count m_tableSize m_given m_known m_news m_depth m_steps m_taken m_shown m_outcome m_parameters m_length m_newLength m_first m_now m_anew m_table m_inputs m_met m_any m_number m_outAny m_out m_at m_in m_back m_register m_output m_calls m_latest m_differ) : ∃ (o : Int32) (o2 : Int32 × Int32), f_X7_functions t_analysed tb_functionCount ta_functionCount = some o ∧ f_X8_functions m_code m_count = some o2 ∧ o = o2.1 ∧ Rel t_analysed tb_functionCount tb_entryCount tb_parameterCounts tb_lengths tb_fields tb_entries ta_functionCount ta_entryCount ta_parameterCounts ta_lengths ta_fields ta_entries tk_comeTo tk_any tk_numbers tf_waitingCount tfr_any tfr_numbers tf_isWaiting tf_waiting ty_doneCount ty_outputCount ty_outputValues ty_callCounts ty_latestValues ty_differing th_inputCount th_inputsRead th_openCount th_inputs th_openFunctions th_openStatements th_registers o2.2 m_own m_count m_tableSize m_given m_known m_news m_depth m_steps m_taken m_shown m_outcome m_parameters m_length m_newLength m_first m_now m_anew m_table m_inputs m_met m_any m_number m_outAny m_out m_at m_in m_back m_register m_output m_calls m_latest m_differ := by
  obtain ⟨⟨n, e, pn, ln, -, -, hn, ho, -⟩, hK, -⟩ := id hRel
  rcases hK with ⟨h1, h2, h3⟩ | ⟨h1, h2, h3, hA⟩
  · exact ⟨_, _, if_pos h1, rfl, by rw [hn, h3, ho], hRel⟩
  · obtain ⟨n', e', pn', ln', nl', -, -, -, hc, hc2, -⟩ := hA
    exact ⟨_, _, if_neg (by rw [h1]; decide), rfl, by rw [hc, hc2], hRel⟩


set_option maxHeartbeats 4000000 in
theorem op_kind {N : Nat} (hN : 20000 ≤ N) {t_analysed : Int32} {tb_functionCount : Int32} {tb_entryCount : Int32} {tb_parameterCounts : Nat → Int32} {tb_lengths : Nat → Int32} {tb_fields : Nat → Int32} {tb_entries : Nat → Int32} {ta_functionCount : Int32} {ta_entryCount : Int32} {ta_parameterCounts : Nat → Int32} {ta_lengths : Nat → Int32} {ta_fields : Nat → Int32} {ta_entries : Nat → Int32} {tk_comeTo : Nat → Int32} {tk_any : Nat → Int32} {tk_numbers : Nat → Int32} {tf_waitingCount : Int32} {tfr_any : Nat → Int32} {tfr_numbers : Nat → Int32} {tf_isWaiting : Nat → Int32} {tf_waiting : Nat → Int32} {ty_doneCount : Int32} {ty_outputCount : Int32} {ty_outputValues : Nat → Int32} {ty_callCounts : Nat → Int32} {ty_latestValues : Nat → Int32} {ty_differing : Nat → Int32} {th_inputCount : Int32} {th_inputsRead : Int32} {th_openCount : Int32} {th_inputs : Nat → Int32} {th_openFunctions : Nat → Int32} {th_openStatements : Nat → Int32} {th_registers : Nat → Int32} {m_code : Int32} {m_own : Int32} {m_count : Int32} {m_tableSize : Int32} {m_given : Int32} {m_known : Int32} {m_news : Int32} {m_depth : Int32} {m_steps : Int32} {m_taken : Int32} {m_shown : Int32} {m_outcome : Int32} {m_parameters : Nat → Int32} {m_length : Nat → Int32} {m_newLength : Nat → Int32} {m_first : Nat → Int32} {m_now : Nat → Int32} {m_anew : Nat → Int32} {m_table : Nat → Int32} {m_inputs : Nat → Int32} {m_met : Nat → Int32} {m_any : Nat → Int32} {m_number : Nat → Int32} {m_outAny : Nat → Int32} {m_out : Nat → Int32} {m_at : Nat → Int32} {m_in : Nat → Int32} {m_back : Nat → Int32} {m_register : Nat → Int32} {m_output : Nat → Int32} {m_calls : Nat → Int32} {m_latest : Nat → Int32} {m_differ : Nat → Int32} (hRel : Rel t_analysed tb_functionCount tb_entryCount tb_parameterCounts tb_lengths tb_fields tb_entries ta_functionCount ta_entryCount ta_parameterCounts ta_lengths ta_fields ta_entries tk_comeTo tk_any tk_numbers tf_waitingCount tfr_any tfr_numbers tf_isWaiting tf_waiting ty_doneCount ty_outputCount ty_outputValues ty_callCounts ty_latestValues ty_differing th_inputCount th_inputsRead th_openCount th_inputs th_openFunctions th_openStatements th_registers m_code m_own m_count m_tableSize m_given m_known m_news m_depth m_steps m_taken m_shown m_outcome m_parameters m_length m_newLength m_first m_now m_anew m_table m_inputs m_met m_any m_number m_outAny m_out m_at m_in m_back m_register m_output m_calls m_latest m_differ) (x1 : Int32) (x2 : Int32) (x3 : Int32) : ∃ (o : (Int32) ⊕ String) (o2 : Int32 × Int32), f_X7_kind x1 x2 x3 t_analysed ta_functionCount ta_lengths tk_comeTo tk_any = some o ∧ (∀ E, o = .inr E → E = g_IS ∨ E = g_IO) ∧ f_X8_kind x1 x2 x3 m_code m_count m_known m_length m_met m_any = some o2 ∧ o2.2 = g_kk [g_IS, g_IO] o ∧ (∀ u, o = .inl u → u = o2.1) ∧ Rel t_analysed tb_functionCount tb_entryCount tb_parameterCounts tb_lengths tb_fields tb_entries ta_functionCount ta_entryCount ta_parameterCounts ta_lengths ta_fields ta_entries tk_comeTo tk_any tk_numbers tf_waitingCount tfr_any tfr_numbers tf_isWaiting tf_waiting ty_doneCount ty_outputCount ty_outputValues ty_callCounts ty_latestValues ty_differing th_inputCount th_inputsRead th_openCount th_inputs th_openFunctions th_openStatements th_registers o2.2 m_own m_count m_tableSize m_given m_known m_news m_depth m_steps m_taken m_shown m_outcome m_parameters m_length m_newLength m_first m_now m_anew m_table m_inputs m_met m_any m_number m_outAny m_out m_at m_in m_back m_register m_output m_calls m_latest m_differ := by
  obtain ⟨-, hK, -⟩ := id hRel
  rcases hK with ⟨h1, h2, h3⟩ | ⟨h1, h2, h3, n, e, pn, ln, nl, hn0, hn, he, hc, hfc, hec, hts, hW, hp, hfl, htb, hkn⟩
  · refine ⟨.inr g_IS, (0, 1), ?_, fun E hE => Or.inl (Sum.inr.inj hE).symm, ?_, q_kb1.symm, fun u hu => (by cases hu), hRel⟩
    · unfold f_X7_kind f_X7_askedPlace; rw [if_pos h1]; rfl
    · unfold f_X8_kind f_X8_find; rw [if_pos h2]; rfl
  · have ha : ¬ t_analysed = 0 := by rw [h1]; decide
    have hk : ¬ m_known = 0 := by rw [h2]; decide
    rcases q_ask x1 x2 x3 (ls := ta_lengths) (ml := m_length) (c := m_code) hn ha hk (fun f hf => ⟨(hW.1 f hf).2.2.1, (hW.1 f hf).2.2.2⟩) with ⟨a1, a2⟩ | ⟨f, p, r, hf, hp16, hr, rfl, rfl, rfl, a1⟩
    · refine ⟨.inr g_IO, (0, 2), ?_, fun E hE => Or.inr (Sum.inr.inj hE).symm, ?_, (q_kb2 (by decide)).symm, fun u hu => (by cases hu), hRel⟩
      · unfold f_X7_kind; rw [hfc, q_bind a1]; rfl
      · unfold f_X8_kind; rw [hc, q_bind a2]; rfl
    · obtain ⟨-, hq2, hq3, hq4, hq5⟩ := hp f hf
      have a2 := q_find (c := m_code) hf hn hp16 hr hk hq3 hq4
      have hrp : min p (ln f) ≤ ln f := Nat.min_le_right _ _
      have hcp : min p (nl f) ≤ nl f := Nat.min_le_right _ _
      have hnl := (hW.1 f hf).2.2.2
      obtain ⟨rp, erp⟩ : ∃ rp, rp = min p (ln f) := ⟨_, rfl⟩
      rw [← erp] at a2 hrp
      have hM : f_X8_kind (nI f) (nI p) (nI r) m_code m_count m_known m_length m_met m_any = some ((if m_met (17 * f + rp) = 0 then 0 else if m_any (6 * (17 * f + rp) + r) = 0 then 1 else 2), 0) := by
        unfold f_X8_kind
        rw [hc, q_bind a2]
        show (if (0 : Int32) < 0 then _ else _) = _
        rw [if_neg (by decide), q_bind (q_div6 (by omega) hr), q_bind (q_rd (by omega) (by omega))]
        by_cases hm : m_met (17 * f + rp) = 0
        · rw [if_pos hm, if_pos hm]
        · rw [if_neg hm, if_neg hm]
          show (g_rd 1224 _ (nI (6 * (17 * f + rp) + r))).bind _ = _
          rw [q_bind (q_rd (by omega) (by omega))]
          by_cases hb : m_any (6 * (17 * f + rp) + r) = 0
          · rw [if_pos hb, if_pos hb]
          · rw [if_neg hb, if_neg hb]
      have hX : f_X7_kind (nI f) (nI p) (nI r) t_analysed ta_functionCount ta_lengths tk_comeTo tk_any = some (.inl (if m_met (17 * f + rp) = 0 then 0 else if m_any (6 * (17 * f + rp) + r) = 0 then 1 else 2)) := by
        unfold f_X7_kind
        rw [hfc, q_bind a1]
        show (g_rd 204 tk_comeTo (nI (17 * f + min p (nl f)))).bind _ = _
        rw [q_bind (q_rd (by omega) (by omega))]
        rcases hq5 with hq5 | ⟨hq5, hq6⟩
        · rw [hq5, ← erp, (hkn f hf rp hrp).1]
          by_cases hm : m_met (17 * f + rp) = 0
          · rw [if_pos hm, if_pos hm]
          · obtain ⟨b1, b2, b3⟩ := (hkn f hf rp hrp).2 hm r hr
            rw [if_neg hm, if_neg hm, q_bind (q_hasR (by omega) hr), b1]
            by_cases hb : m_any (6 * (17 * f + rp) + r) = 0
            · rw [if_pos hb, if_pos hb]; rfl
            · rw [if_neg hb, if_neg hb]; rfl
        · have e0 : tk_comeTo (17 * f + min p (nl f)) = 0 := by
            rw [hq5, Nat.min_zero, (hkn f hf 0 (Nat.zero_le _)).1]; exact hq6 0 (Nat.zero_le _)
          rw [if_pos e0, if_pos (hq6 rp hrp)]
      exact ⟨_, _, hX, fun E hE => (by cases hE), hM, rfl, fun u hu => (by cases hu; rfl), hRel⟩


set_option maxHeartbeats 4000000 in
theorem op_number {N : Nat} (hN : 20000 ≤ N) {t_analysed : Int32} {tb_functionCount : Int32} {tb_entryCount : Int32} {tb_parameterCounts : Nat → Int32} {tb_lengths : Nat → Int32} {tb_fields : Nat → Int32} {tb_entries : Nat → Int32} {ta_functionCount : Int32} {ta_entryCount : Int32} {ta_parameterCounts : Nat → Int32} {ta_lengths : Nat → Int32} {ta_fields : Nat → Int32} {ta_entries : Nat → Int32} {tk_comeTo : Nat → Int32} {tk_any : Nat → Int32} {tk_numbers : Nat → Int32} {tf_waitingCount : Int32} {tfr_any : Nat → Int32} {tfr_numbers : Nat → Int32} {tf_isWaiting : Nat → Int32} {tf_waiting : Nat → Int32} {ty_doneCount : Int32} {ty_outputCount : Int32} {ty_outputValues : Nat → Int32} {ty_callCounts : Nat → Int32} {ty_latestValues : Nat → Int32} {ty_differing : Nat → Int32} {th_inputCount : Int32} {th_inputsRead : Int32} {th_openCount : Int32} {th_inputs : Nat → Int32} {th_openFunctions : Nat → Int32} {th_openStatements : Nat → Int32} {th_registers : Nat → Int32} {m_code : Int32} {m_own : Int32} {m_count : Int32} {m_tableSize : Int32} {m_given : Int32} {m_known : Int32} {m_news : Int32} {m_depth : Int32} {m_steps : Int32} {m_taken : Int32} {m_shown : Int32} {m_outcome : Int32} {m_parameters : Nat → Int32} {m_length : Nat → Int32} {m_newLength : Nat → Int32} {m_first : Nat → Int32} {m_now : Nat → Int32} {m_anew : Nat → Int32} {m_table : Nat → Int32} {m_inputs : Nat → Int32} {m_met : Nat → Int32} {m_any : Nat → Int32} {m_number : Nat → Int32} {m_outAny : Nat → Int32} {m_out : Nat → Int32} {m_at : Nat → Int32} {m_in : Nat → Int32} {m_back : Nat → Int32} {m_register : Nat → Int32} {m_output : Nat → Int32} {m_calls : Nat → Int32} {m_latest : Nat → Int32} {m_differ : Nat → Int32} (hRel : Rel t_analysed tb_functionCount tb_entryCount tb_parameterCounts tb_lengths tb_fields tb_entries ta_functionCount ta_entryCount ta_parameterCounts ta_lengths ta_fields ta_entries tk_comeTo tk_any tk_numbers tf_waitingCount tfr_any tfr_numbers tf_isWaiting tf_waiting ty_doneCount ty_outputCount ty_outputValues ty_callCounts ty_latestValues ty_differing th_inputCount th_inputsRead th_openCount th_inputs th_openFunctions th_openStatements th_registers m_code m_own m_count m_tableSize m_given m_known m_news m_depth m_steps m_taken m_shown m_outcome m_parameters m_length m_newLength m_first m_now m_anew m_table m_inputs m_met m_any m_number m_outAny m_out m_at m_in m_back m_register m_output m_calls m_latest m_differ) (x1 : Int32) (x2 : Int32) (x3 : Int32) : ∃ (o : (Int32) ⊕ String) (o2 : Int32 × Int32), f_X7_number x1 x2 x3 t_analysed ta_functionCount ta_lengths tk_comeTo tk_any tk_numbers = some o ∧ (∀ E, o = .inr E → E = g_IS ∨ E = g_IO) ∧ f_X8_number x1 x2 x3 m_code m_count m_known m_length m_met m_number = some o2 ∧ o2.2 = g_kk [g_IS, g_IO] o ∧ (∀ u, o = .inl u → u = o2.1) ∧ Rel t_analysed tb_functionCount tb_entryCount tb_parameterCounts tb_lengths tb_fields tb_entries ta_functionCount ta_entryCount ta_parameterCounts ta_lengths ta_fields ta_entries tk_comeTo tk_any tk_numbers tf_waitingCount tfr_any tfr_numbers tf_isWaiting tf_waiting ty_doneCount ty_outputCount ty_outputValues ty_callCounts ty_latestValues ty_differing th_inputCount th_inputsRead th_openCount th_inputs th_openFunctions th_openStatements th_registers o2.2 m_own m_count m_tableSize m_given m_known m_news m_depth m_steps m_taken m_shown m_outcome m_parameters m_length m_newLength m_first m_now m_anew m_table m_inputs m_met m_any m_number m_outAny m_out m_at m_in m_back m_register m_output m_calls m_latest m_differ := by
  obtain ⟨-, hK, -⟩ := id hRel
  rcases hK with ⟨h1, h2, h3⟩ | ⟨h1, h2, h3, n, e, pn, ln, nl, hn0, hn, he, hc, hfc, hec, hts, hW, hp, hfl, htb, hkn⟩
  · refine ⟨.inr g_IS, (0, 1), ?_, fun E hE => Or.inl (Sum.inr.inj hE).symm, ?_, q_kb1.symm, fun u hu => (by cases hu), hRel⟩
    · unfold f_X7_number f_X7_askedPlace; rw [if_pos h1]; rfl
    · unfold f_X8_number f_X8_find; rw [if_pos h2]; rfl
  · have ha : ¬ t_analysed = 0 := by rw [h1]; decide
    have hk : ¬ m_known = 0 := by rw [h2]; decide
    rcases q_ask x1 x2 x3 (ls := ta_lengths) (ml := m_length) (c := m_code) hn ha hk (fun f hf => ⟨(hW.1 f hf).2.2.1, (hW.1 f hf).2.2.2⟩) with ⟨a1, a2⟩ | ⟨f, p, r, hf, hp16, hr, rfl, rfl, rfl, a1⟩
    · refine ⟨.inr g_IO, (0, 2), ?_, fun E hE => Or.inr (Sum.inr.inj hE).symm, ?_, (q_kb2 (by decide)).symm, fun u hu => (by cases hu), hRel⟩
      · unfold f_X7_number; rw [hfc, q_bind a1]; rfl
      · unfold f_X8_number; rw [hc, q_bind a2]; rfl
    · obtain ⟨-, hq2, hq3, hq4, hq5⟩ := hp f hf
      have a2 := q_find (c := m_code) hf hn hp16 hr hk hq3 hq4
      have hrp : min p (ln f) ≤ ln f := Nat.min_le_right _ _
      have hcp : min p (nl f) ≤ nl f := Nat.min_le_right _ _
      have hnl := (hW.1 f hf).2.2.2
      obtain ⟨rp, erp⟩ : ∃ rp, rp = min p (ln f) := ⟨_, rfl⟩
      rw [← erp] at a2 hrp
      have hM : f_X8_number (nI f) (nI p) (nI r) m_code m_count m_known m_length m_met m_number = some ((if m_met (17 * f + rp) = 0 then 0 else m_number (6 * (17 * f + rp) + r)), 0) := by
        unfold f_X8_number
        rw [hc, q_bind a2]
        show (if (0 : Int32) < 0 then _ else _) = _
        rw [if_neg (by decide), q_bind (q_div6 (by omega) hr), q_bind (q_rd (by omega) (by omega))]
        by_cases hm : m_met (17 * f + rp) = 0
        · rw [if_pos hm, if_pos hm]
        · rw [if_neg hm, if_neg hm]
          show (g_rd 1224 _ (nI (6 * (17 * f + rp) + r))).bind _ = _
          rw [q_bind (q_rd (by omega) (by omega))]
      have hX : f_X7_number (nI f) (nI p) (nI r) t_analysed ta_functionCount ta_lengths tk_comeTo tk_any tk_numbers = some (.inl (if m_met (17 * f + rp) = 0 then 0 else m_number (6 * (17 * f + rp) + r))) := by
        unfold f_X7_number
        rw [hfc, q_bind a1]
        show (g_rd 204 tk_comeTo (nI (17 * f + min p (nl f)))).bind _ = _
        rw [q_bind (q_rd (by omega) (by omega))]
        rcases hq5 with hq5 | ⟨hq5, hq6⟩
        · rw [hq5, ← erp, (hkn f hf rp hrp).1]
          by_cases hm : m_met (17 * f + rp) = 0
          · rw [if_pos hm, if_pos hm]
          · obtain ⟨b1, b2, b3⟩ := (hkn f hf rp hrp).2 hm r hr
            rw [if_neg hm, if_neg hm, q_bind (q_hasR (by omega) hr), b1]
            by_cases hb : m_any (6 * (17 * f + rp) + r) = 0
            · rw [if_pos hb]
              show (f_X1_numberOf _ _ _).bind _ = _
              rw [q_bind (q_numR (by omega) hr), b3 hb]
            · rw [if_neg hb, b2 hb]; rfl
        · have e0 : tk_comeTo (17 * f + min p (nl f)) = 0 := by
            rw [hq5, Nat.min_zero, (hkn f hf 0 (Nat.zero_le _)).1]; exact hq6 0 (Nat.zero_le _)
          rw [if_pos e0, if_pos (hq6 rp hrp)]
      exact ⟨_, _, hX, fun E hE => (by cases hE), hM, rfl, fun u hu => (by cases hu; rfl), hRel⟩


set_option maxHeartbeats 4000000 in
theorem op_statement {N : Nat} (hN : 20000 ≤ N) {t_analysed : Int32} {tb_functionCount : Int32} {tb_entryCount : Int32} {tb_parameterCounts : Nat → Int32} {tb_lengths : Nat → Int32} {tb_fields : Nat → Int32} {tb_entries : Nat → Int32} {ta_functionCount : Int32} {ta_entryCount : Int32} {ta_parameterCounts : Nat → Int32} {ta_lengths : Nat → Int32} {ta_fields : Nat → Int32} {ta_entries : Nat → Int32} {tk_comeTo : Nat → Int32} {tk_any : Nat → Int32} {tk_numbers : Nat → Int32} {tf_waitingCount : Int32} {tfr_any : Nat → Int32} {tfr_numbers : Nat → Int32} {tf_isWaiting : Nat → Int32} {tf_waiting : Nat → Int32} {ty_doneCount : Int32} {ty_outputCount : Int32} {ty_outputValues : Nat → Int32} {ty_callCounts : Nat → Int32} {ty_latestValues : Nat → Int32} {ty_differing : Nat → Int32} {th_inputCount : Int32} {th_inputsRead : Int32} {th_openCount : Int32} {th_inputs : Nat → Int32} {th_openFunctions : Nat → Int32} {th_openStatements : Nat → Int32} {th_registers : Nat → Int32} {m_code : Int32} {m_own : Int32} {m_count : Int32} {m_tableSize : Int32} {m_given : Int32} {m_known : Int32} {m_news : Int32} {m_depth : Int32} {m_steps : Int32} {m_taken : Int32} {m_shown : Int32} {m_outcome : Int32} {m_parameters : Nat → Int32} {m_length : Nat → Int32} {m_newLength : Nat → Int32} {m_first : Nat → Int32} {m_now : Nat → Int32} {m_anew : Nat → Int32} {m_table : Nat → Int32} {m_inputs : Nat → Int32} {m_met : Nat → Int32} {m_any : Nat → Int32} {m_number : Nat → Int32} {m_outAny : Nat → Int32} {m_out : Nat → Int32} {m_at : Nat → Int32} {m_in : Nat → Int32} {m_back : Nat → Int32} {m_register : Nat → Int32} {m_output : Nat → Int32} {m_calls : Nat → Int32} {m_latest : Nat → Int32} {m_differ : Nat → Int32} (hRel : Rel t_analysed tb_functionCount tb_entryCount tb_parameterCounts tb_lengths tb_fields tb_entries ta_functionCount ta_entryCount ta_parameterCounts ta_lengths ta_fields ta_entries tk_comeTo tk_any tk_numbers tf_waitingCount tfr_any tfr_numbers tf_isWaiting tf_waiting ty_doneCount ty_outputCount ty_outputValues ty_callCounts ty_latestValues ty_differing th_inputCount th_inputsRead th_openCount th_inputs th_openFunctions th_openStatements th_registers m_code m_own m_count m_tableSize m_given m_known m_news m_depth m_steps m_taken m_shown m_outcome m_parameters m_length m_newLength m_first m_now m_anew m_table m_inputs m_met m_any m_number m_outAny m_out m_at m_in m_back m_register m_output m_calls m_latest m_differ) (x1 : Int32) (x2 : Int32) (x3 : Int32) : ∃ (o : (Int32) ⊕ String) (o2 : Int32 × Int32), f_X7_statement x1 x2 x3 t_analysed ta_functionCount ta_lengths ta_fields = some o ∧ (∀ E, o = .inr E → E = g_IS ∨ E = g_IO ∨ E = g_IA) ∧ f_X8_statement x1 x2 x3 m_code m_count m_known m_newLength m_anew = some o2 ∧ o2.2 = g_kk [g_IS, g_IO, g_IA] o ∧ (∀ u, o = .inl u → u = o2.1) ∧ Rel t_analysed tb_functionCount tb_entryCount tb_parameterCounts tb_lengths tb_fields tb_entries ta_functionCount ta_entryCount ta_parameterCounts ta_lengths ta_fields ta_entries tk_comeTo tk_any tk_numbers tf_waitingCount tfr_any tfr_numbers tf_isWaiting tf_waiting ty_doneCount ty_outputCount ty_outputValues ty_callCounts ty_latestValues ty_differing th_inputCount th_inputsRead th_openCount th_inputs th_openFunctions th_openStatements th_registers o2.2 m_own m_count m_tableSize m_given m_known m_news m_depth m_steps m_taken m_shown m_outcome m_parameters m_length m_newLength m_first m_now m_anew m_table m_inputs m_met m_any m_number m_outAny m_out m_at m_in m_back m_register m_output m_calls m_latest m_differ := by
  obtain ⟨-, hK, -⟩ := id hRel
  rcases hK with ⟨h1, h2, h3⟩ | ⟨h1, h2, h3, n, e, pn, ln, nl, hn0, hn, he, hc, hfc, hec, hts, hW, hp, hfl, htb, hkn⟩
  · refine ⟨.inr g_IS, (0, 1), ?_, fun E hE => Or.inl (Sum.inr.inj hE).symm, ?_, q_kb1.symm, fun u hu => (by cases hu), hRel⟩
    · unfold f_X7_statement; rw [if_pos h1]
    · unfold f_X8_statement; rw [if_pos h2]; rfl
  · have ha : ¬ t_analysed = 0 := by rw [h1]; decide
    have hk : ¬ m_known = 0 := by rw [h2]; decide
    have bad : f_X7_statement x1 x2 x3 t_analysed ta_functionCount ta_lengths ta_fields = some (.inr g_IO) → f_X8_statement x1 x2 x3 m_code m_count m_known m_newLength m_anew = some (0, 2) → ∃ (o : (Int32) ⊕ String) (o2 : Int32 × Int32), f_X7_statement x1 x2 x3 t_analysed ta_functionCount ta_lengths ta_fields = some o ∧ (∀ E, o = .inr E → E = g_IS ∨ E = g_IO ∨ E = g_IA) ∧ f_X8_statement x1 x2 x3 m_code m_count m_known m_newLength m_anew = some o2 ∧ o2.2 = g_kk [g_IS, g_IO, g_IA] o ∧ (∀ u, o = .inl u → u = o2.1) := fun a b => ⟨.inr g_IO, (0, 2), a, fun E hE => Or.inr (Or.inl (Sum.inr.inj hE).symm), b, (q_kb2 (by decide)).symm, fun u hu => (by cases hu)⟩
    suffices h : ∃ (o : (Int32) ⊕ String) (o2 : Int32 × Int32), f_X7_statement x1 x2 x3 t_analysed ta_functionCount ta_lengths ta_fields = some o ∧ (∀ E, o = .inr E → E = g_IS ∨ E = g_IO ∨ E = g_IA) ∧ f_X8_statement x1 x2 x3 m_code m_count m_known m_newLength m_anew = some o2 ∧ o2.2 = g_kk [g_IS, g_IO, g_IA] o ∧ (∀ u, o = .inl u → u = o2.1) by
      obtain ⟨o, o2, a, b, c, d, e9⟩ := h
      exact ⟨o, o2, a, b, c, d, e9, hRel⟩
    rcases q_hasF0 x1 (n := n) (by omega) with (h | ⟨h, h'⟩) | ⟨f, hf, rfl, hf0, hf1⟩
    · refine bad ?_ ?_
      · unfold f_X7_statement; rw [if_neg ha]; unfold f_X4_hasFunction; rw [if_pos h]; rfl
      · unfold f_X8_statement; rw [if_neg hk, if_pos h]; rfl
    · refine bad ?_ ?_
      · unfold f_X7_statement; rw [if_neg ha]; unfold f_X4_hasFunction; rw [if_neg h, hfc, if_pos h']; rfl
      · unfold f_X8_statement; rw [if_neg hk, if_neg h, hc, if_pos h']; rfl
    · have aF : f_X4_hasFunction (nI f) ta_functionCount = some 1 := by unfold f_X4_hasFunction; rw [if_neg hf0, hfc, if_neg hf1]
      obtain ⟨hp1, hp2, hp3, hp4⟩ := hW.1 f hf
      obtain ⟨hq1, hq2, -⟩ := hp f hf
      rcases pk_ix x2 (n := nl f) (by omega) with h | h | ⟨i, hi, rfl⟩
      · refine bad ?_ ?_
        · unfold f_X7_statement; rw [if_neg ha, q_bind aF, if_neg (by decide), if_pos h]
        · unfold f_X8_statement; rw [if_neg hk, if_neg hf0, hc, if_neg hf1, if_pos h]; rfl
      · have h0 : ¬ x2 < 0 := q_nlt0 (by omega) h
        have h1' : ¬ x2 < nI (nl f) := q_nlt h
        refine bad ?_ ?_
        · unfold f_X7_statement; rw [if_neg ha, q_bind aF, if_neg (by decide), if_neg h0, q_bind (q_rd (by omega) (by omega)), hp3, if_neg h1']
        · unfold f_X8_statement; rw [if_neg hk, if_neg hf0, hc, if_neg hf1, if_neg h0, q_bind (q_rd (by omega) (by omega)), hq2, if_neg h1']; rfl
      · have h0 := nI_pos (n := i) (by omega)
        have h1' : nI i < nI (nl f) := nI_lt hi (by omega)
        have eX : f_X7_statement (nI f) (nI i) x3 t_analysed ta_functionCount ta_lengths ta_fields = if x3 < 0 then some (.inr g_IA) else if x3 < 6 then (f_X4_fieldOf (nI f) (nI i) x3 ta_fields).bind (fun o9 => some (.inl o9)) else some (.inr g_IA) := by
          unfold f_X7_statement; rw [if_neg ha, q_bind aF, if_neg (by decide), if_neg h0, q_bind (q_rd (by omega) (by omega)), hp3, if_pos h1']
        have eM : f_X8_statement (nI f) (nI i) x3 m_code m_count m_known m_newLength m_anew = if x3 < 0 then some (0, 3) else if x3 ≤ 5 then (g_rd 1152 m_anew (((96 * nI f) + (6 * nI i)) + x3)).bind (fun v2 => some (v2, 0)) else some (0, 3) := by
          unfold f_X8_statement; rw [if_neg hk, if_neg hf0, hc, if_neg hf1, if_neg h0, q_bind (q_rd (by omega) (by omega)), hq2, if_pos h1']; rfl
        rw [eX, eM]
        rcases pk_ix x3 (n := 6) (by omega) with h | h | ⟨w, hw, rfl⟩
        · exact ⟨.inr g_IA, (0, 3), if_pos h, fun E hE => Or.inr (Or.inr (Sum.inr.inj hE).symm), if_pos h, (q_k3 (by decide) (by decide)).symm, fun u hu => (by cases hu)⟩
        · have h3 : ¬ x3 < 0 := q_nlt0 (by omega) h
          have h6 : ¬ x3 < 6 := q_nlt h
          have h5 : ¬ x3 ≤ 5 := fun q => Int32.lt_irrefl (Int32.lt_of_lt_of_le (show (5 : Int32) < nI 6 by decide) (Int32.le_trans h q))
          exact ⟨.inr g_IA, (0, 3), by rw [if_neg h3, if_neg h6], fun E hE => Or.inr (Or.inr (Sum.inr.inj hE).symm), by rw [if_neg h3, if_neg h5], (q_k3 (by decide) (by decide)).symm, fun u hu => (by cases hu)⟩
        · have h3 := nI_pos (n := w) (by omega)
          have h6 : nI w < 6 := nI_lt (b := 6) hw (by omega)
          have h5 : nI w ≤ 5 := nI_le (b := 5) (by omega) (by omega)
          refine ⟨.inl (ta_fields (96 * f + 6 * i + w)), (m_anew (96 * f + 6 * i + w), 0), ?_, fun E hE => (by cases hE), ?_, rfl, fun u hu => (by cases hu; exact (hfl f hf i hi w hw).symm)⟩
          · rw [if_neg h3, if_pos h6, q_bind (q_fieldOf (by omega) (by omega) hw)]
          · rw [if_neg h3, if_pos h5, q_at96, q_bind (q_rd (by omega) (by omega))]


set_option maxHeartbeats 4000000 in
theorem op_run {N : Nat} (hN : 20000 ≤ N) {t_analysed : Int32} {tb_functionCount : Int32} {tb_entryCount : Int32} {tb_parameterCounts : Nat → Int32} {tb_lengths : Nat → Int32} {tb_fields : Nat → Int32} {tb_entries : Nat → Int32} {ta_functionCount : Int32} {ta_entryCount : Int32} {ta_parameterCounts : Nat → Int32} {ta_lengths : Nat → Int32} {ta_fields : Nat → Int32} {ta_entries : Nat → Int32} {tk_comeTo : Nat → Int32} {tk_any : Nat → Int32} {tk_numbers : Nat → Int32} {tf_waitingCount : Int32} {tfr_any : Nat → Int32} {tfr_numbers : Nat → Int32} {tf_isWaiting : Nat → Int32} {tf_waiting : Nat → Int32} {ty_doneCount : Int32} {ty_outputCount : Int32} {ty_outputValues : Nat → Int32} {ty_callCounts : Nat → Int32} {ty_latestValues : Nat → Int32} {ty_differing : Nat → Int32} {th_inputCount : Int32} {th_inputsRead : Int32} {th_openCount : Int32} {th_inputs : Nat → Int32} {th_openFunctions : Nat → Int32} {th_openStatements : Nat → Int32} {th_registers : Nat → Int32} {m_code : Int32} {m_own : Int32} {m_count : Int32} {m_tableSize : Int32} {m_given : Int32} {m_known : Int32} {m_news : Int32} {m_depth : Int32} {m_steps : Int32} {m_taken : Int32} {m_shown : Int32} {m_outcome : Int32} {m_parameters : Nat → Int32} {m_length : Nat → Int32} {m_newLength : Nat → Int32} {m_first : Nat → Int32} {m_now : Nat → Int32} {m_anew : Nat → Int32} {m_table : Nat → Int32} {m_inputs : Nat → Int32} {m_met : Nat → Int32} {m_any : Nat → Int32} {m_number : Nat → Int32} {m_outAny : Nat → Int32} {m_out : Nat → Int32} {m_at : Nat → Int32} {m_in : Nat → Int32} {m_back : Nat → Int32} {m_register : Nat → Int32} {m_output : Nat → Int32} {m_calls : Nat → Int32} {m_latest : Nat → Int32} {m_differ : Nat → Int32} (hRel : Rel t_analysed tb_functionCount tb_entryCount tb_parameterCounts tb_lengths tb_fields tb_entries ta_functionCount ta_entryCount ta_parameterCounts ta_lengths ta_fields ta_entries tk_comeTo tk_any tk_numbers tf_waitingCount tfr_any tfr_numbers tf_isWaiting tf_waiting ty_doneCount ty_outputCount ty_outputValues ty_callCounts ty_latestValues ty_differing th_inputCount th_inputsRead th_openCount th_inputs th_openFunctions th_openStatements th_registers m_code m_own m_count m_tableSize m_given m_known m_news m_depth m_steps m_taken m_shown m_outcome m_parameters m_length m_newLength m_first m_now m_anew m_table m_inputs m_met m_any m_number m_outAny m_out m_at m_in m_back m_register m_output m_calls m_latest m_differ) (x1 : Int32) (x2 : Int32) (h01 : x1 = 0 ∨ x1 = 1) : ∃ (o : (Int32 × Int32 × Int32 × (Nat → Int32) × (Nat → Int32) × (Nat → Int32) × (Nat → Int32) × Int32 × Int32 × (Nat → Int32) × (Nat → Int32) × (Nat → Int32)) ⊕ String) (o2 : Int32 × Int32 × Int32 × Int32 × Int32 × Int32 × Int32 × (Nat → Int32) × (Nat → Int32) × (Nat → Int32) × (Nat → Int32) × (Nat → Int32) × (Nat → Int32) × (Nat → Int32) × (Nat → Int32)), f_X7_run N x1 x2 t_analysed tb_functionCount tb_entryCount tb_parameterCounts tb_lengths tb_fields tb_entries ta_entryCount ta_parameterCounts ta_lengths ta_fields ta_entries ty_doneCount ty_outputCount ty_outputValues ty_callCounts ty_latestValues ty_differing th_inputCount th_inputsRead th_openCount th_inputs th_openFunctions th_openStatements th_registers = some o ∧ (∀ E, o = .inr E → E = g_IA ∨ E = g_IS) ∧ f_X8_run N x1 x2 m_code m_own m_tableSize m_given m_known m_depth m_steps m_taken m_shown m_outcome m_parameters m_length m_newLength m_first m_anew m_table m_inputs m_at m_in m_back m_register m_output m_calls m_latest m_differ = some o2 ∧ o2.2.1 = g_kk [g_IA, g_IS] o ∧ (∀ u, o = .inl u → u.1 = o2.1) ∧ Rel t_analysed tb_functionCount tb_entryCount tb_parameterCounts tb_lengths tb_fields tb_entries ta_functionCount ta_entryCount ta_parameterCounts ta_lengths ta_fields ta_entries tk_comeTo tk_any tk_numbers tf_waitingCount tfr_any tfr_numbers tf_isWaiting tf_waiting (g_p o (fun u => u.2.1) ty_doneCount) (g_p o (fun u => u.2.2.1) ty_outputCount) (g_p o (fun u => u.2.2.2.1) ty_outputValues) (g_p o (fun u => u.2.2.2.2.1) ty_callCounts) (g_p o (fun u => u.2.2.2.2.2.1) ty_latestValues) (g_p o (fun u => u.2.2.2.2.2.2.1) ty_differing) th_inputCount (g_p o (fun u => u.2.2.2.2.2.2.2.1) th_inputsRead) (g_p o (fun u => u.2.2.2.2.2.2.2.2.1) th_openCount) th_inputs (g_p o (fun u => u.2.2.2.2.2.2.2.2.2.1) th_openFunctions) (g_p o (fun u => u.2.2.2.2.2.2.2.2.2.2.1) th_openStatements) (g_p o (fun u => u.2.2.2.2.2.2.2.2.2.2.2) th_registers) o2.2.1 m_own m_count m_tableSize m_given m_known m_news o2.2.2.1 o2.2.2.2.1 o2.2.2.2.2.1 o2.2.2.2.2.2.1 o2.2.2.2.2.2.2.1 m_parameters m_length m_newLength m_first m_now m_anew m_table m_inputs m_met m_any m_number m_outAny m_out o2.2.2.2.2.2.2.2.1 o2.2.2.2.2.2.2.2.2.1 o2.2.2.2.2.2.2.2.2.2.1 o2.2.2.2.2.2.2.2.2.2.2.1 o2.2.2.2.2.2.2.2.2.2.2.2.1 o2.2.2.2.2.2.2.2.2.2.2.2.2.1 o2.2.2.2.2.2.2.2.2.2.2.2.2.2.1 o2.2.2.2.2.2.2.2.2.2.2.2.2.2.2 := by
  obtain ⟨⟨n, e, pn, ln, hn, he, h1, h2, h3, h4, hW, hp, hfl, htb⟩, hK, ⟨g, hg, g1, g2, g3⟩, hT, hF⟩ := id hRel
  refine Classical.byContradiction (fun hgoal => ?_)
  have bad : ∀ (E : String) (c : Int32), (E = g_IA ∧ c = 1) ∨ (E = g_IS ∧ c = 2) → f_X7_run N x1 x2 t_analysed tb_functionCount tb_entryCount tb_parameterCounts tb_lengths tb_fields tb_entries ta_entryCount ta_parameterCounts ta_lengths ta_fields ta_entries ty_doneCount ty_outputCount ty_outputValues ty_callCounts ty_latestValues ty_differing th_inputCount th_inputsRead th_openCount th_inputs th_openFunctions th_openStatements th_registers = some (.inr E) → f_X8_run N x1 x2 m_code m_own m_tableSize m_given m_known m_depth m_steps m_taken m_shown m_outcome m_parameters m_length m_newLength m_first m_anew m_table m_inputs m_at m_in m_back m_register m_output m_calls m_latest m_differ = some (0, c, m_depth, m_steps, m_taken, m_shown, m_outcome, m_at, m_in, m_back, m_register, m_output, m_calls, m_latest, m_differ) → False := fun E c hc a b => hgoal ⟨.inr E, _, a, fun E' hE' => by
      have := (Sum.inr.inj hE').symm
      rcases hc with ⟨q, _⟩ | ⟨q, _⟩
      · exact Or.inl (this.trans q)
      · exact Or.inr (this.trans q), b, by
      rcases hc with ⟨rfl, rfl⟩ | ⟨rfl, rfl⟩
      · exact q_kb1.symm
      · exact q_k2.symm, fun u hu => (by cases hu), hRel⟩
  have r39 : ∀ c : Int32, ¬ c ≤ 0 → f_X8_run_39 N x1 x2 m_own m_tableSize m_given m_known m_parameters m_length m_newLength m_first m_anew m_table m_inputs c m_code m_depth m_steps m_taken m_shown m_outcome m_at m_in m_back m_register m_output m_calls m_latest m_differ = some (0, c, m_depth, m_steps, m_taken, m_shown, m_outcome, m_at, m_in, m_back, m_register, m_output, m_calls, m_latest, m_differ) := fun c hc => by
    unfold f_X8_run_39; rw [if_neg hc]
  rcases pk_ix x2 (n := 3001) (by omega) with h | h | ⟨most, hm, rfl⟩
  · refine bad g_IA 1 (Or.inl ⟨rfl, rfl⟩) ?_ ?_
    · unfold f_X7_run; rw [if_pos h]
    · unfold f_X8_run; rw [if_pos h]; exact r39 1 (by decide)
  · have h0 : ¬ x2 < 0 := q_nlt0 (by omega) h
    have h30 : ¬ x2 ≤ 3000 := fun q => Int32.lt_irrefl (Int32.lt_of_lt_of_le (show (3000 : Int32) < nI 3001 by decide) (Int32.le_trans h q))
    refine bad g_IA 1 (Or.inl ⟨rfl, rfl⟩) ?_ ?_
    · unfold f_X7_run; rw [if_neg h0, if_neg h30]
    · unfold f_X8_run; rw [if_neg h0, if_neg h30]; exact r39 1 (by decide)
  · have h0 : ¬ nI most < 0 := nI_pos (by omega)
    have h30 : nI most ≤ 3000 := nI_le (b := 3000) (by omega) (by omega)
    by_cases hn0 : n = 0
    · refine bad g_IS 2 (Or.inr ⟨rfl, rfl⟩) ?_ ?_
      · unfold f_X7_run; rw [if_neg h0, if_pos h30, h1, hn0]; rfl
      · unfold f_X8_run; rw [if_neg h0, if_pos h30, if_pos (show m_own = 0 by rw [h2, hn0]; rfl)]; exact r39 2 (by decide)
    · have hF0 : f_X4_hasFunction 0 tb_functionCount = some 1 := by
        unfold f_X4_hasFunction; rw [if_neg (by decide), h1, if_neg (nI_nle (by omega) (by omega))]
      have hown : ¬ m_own = 0 := by rw [h2]; exact nI_ne0 (by omega) (by omega)
      have fin : ∀ {e' : Nat} {pc ls F en : Nat → Int32} {n' : Nat} {pn' ln' : Nat → Nat}, QP x1 n' ln' F m_length m_newLength m_first m_anew → WP n' pn' ln' pc ls F e' en → 0 < n' → e' ≤ 4 → (∀ f, f < n' → m_parameters f = nI (pn' f)) → (∀ j, j < e' → m_table j = en j) → m_tableSize = nI e' →
          (∀ X, f_X2_execute N (nI most) th_inputCount th_inputsRead th_openCount ty_doneCount ty_outputCount ty_outputValues ty_callCounts ty_latestValues ty_differing th_inputs th_openFunctions th_openStatements th_registers (nI e') pc ls F en = some X → f_X7_run N x1 (nI most) t_analysed tb_functionCount tb_entryCount tb_parameterCounts tb_lengths tb_fields tb_entries ta_entryCount ta_parameterCounts ta_lengths ta_fields ta_entries ty_doneCount ty_outputCount ty_outputValues ty_callCounts ty_latestValues ty_differing th_inputCount th_inputsRead th_openCount th_inputs th_openFunctions th_openStatements th_registers = some (.inl (X.1, X.2.2.2.1, X.2.2.2.2.1, X.2.2.2.2.2.1, X.2.2.2.2.2.2.1, X.2.2.2.2.2.2.2.1, X.2.2.2.2.2.2.2.2.1, X.2.1, X.2.2.1, X.2.2.2.2.2.2.2.2.2.1, X.2.2.2.2.2.2.2.2.2.2.1, X.2.2.2.2.2.2.2.2.2.2.2))) →
          f_X8_run N x1 (nI most) m_code m_own m_tableSize m_given m_known m_depth m_steps m_taken m_shown m_outcome m_parameters m_length m_newLength m_first m_anew m_table m_inputs m_at m_in m_back m_register m_output m_calls m_latest m_differ = f_X8_run_39 N x1 (nI most) m_own m_tableSize m_given m_known m_parameters m_length m_newLength m_first m_anew m_table m_inputs 0 m_code m_depth m_steps m_taken m_shown m_outcome m_at m_in m_back m_register m_output m_calls m_latest m_differ → False := by
        intro e' pc ls F en n' pn' ln' hP hW' hn' he' hpar' htab' hts hX hR
        obtain ⟨v, ir', oc', dc', uc', de', ta', sw', sh', ov', cc', lv', df', ou', ca', la', di', of', os', rg', at', in', ba', re', x1', x2', x3'⟩ := q_exec hP hW' hn' he' hpar' htab' hg g3 hN (most := most) (by omega) m_own m_known th_inputsRead th_openCount ty_doneCount ty_outputCount m_code m_depth m_steps m_taken m_shown m_outcome ty_outputValues ty_callCounts ty_latestValues ty_differing th_openFunctions th_openStatements th_registers m_at m_in m_back m_register m_output m_calls m_latest m_differ
        rw [← g1] at x1'
        rw [← g2, ← hts] at x2'
        obtain ⟨s1, s2, s3, s4, s5, s6, s7, s8⟩ := x3'
        refine hgoal ⟨_, _, hX _ x1', fun E hE => (by cases hE), hR.trans x2', rfl, fun u hu => (by cases hu; rfl), ⟨n, e, pn, ln, hn, he, h1, h2, h3, h4, hW, hp, hfl, htb⟩, hK, ⟨g, hg, g1, g2, g3⟩, ⟨rfl, ?_, ⟨sh', s1, s3, s4⟩, s5, s6, s7⟩, ?_⟩
        · show uc' = sw'
          rw [s2, s3]
        · obtain ⟨a1, a2, a3, a4, a5, a6, a7, a8, a9, a10⟩ := hF
          exact ⟨a1, a2, a3, a4, a5, fun q hq => by
            show df' q = 0 ∨ df' q = 1
            rw [s7 q hq]; exact s8 q hq, a7, a8, a9, s8⟩
      rcases h01 with rfl | rfl
      · refine fin (Or.inl ⟨rfl, hn, fun f hf => (hp f hf).2, hfl⟩) hW (by omega) he (fun f hf => (hp f hf).1) htb h4 (fun X hX => ?_) ?_
        · unfold f_X7_run; rw [if_neg h0, if_pos h30, q_bind hF0, if_neg (show ¬ (1 : Int32) = 0 by decide), if_pos rfl]
          unfold f_X7_run_63
          rw [if_pos rfl, h3, q_bind hX]
        · unfold f_X8_run; rw [if_neg h0, if_pos h30, if_neg hown, if_pos rfl]
      · rcases hK with ⟨k1, k2, k3⟩ | ⟨k1, k2, _, n', e', pn', ln', nl', k4, k5, k6, k7, k8, k9, k10, k11, k12, k13, k14, k15⟩
        · refine bad g_IS 2 (Or.inr ⟨rfl, rfl⟩) ?_ ?_
          · unfold f_X7_run; rw [if_neg h0, if_pos h30, q_bind hF0, if_neg (show ¬ (1 : Int32) = 0 by decide), if_neg (show ¬ (1 : Int32) = 0 by decide), if_pos k1]
          · unfold f_X8_run; rw [if_neg h0, if_pos h30, if_neg hown, if_neg (show ¬ (1 : Int32) = 0 by decide), if_pos k2]; exact r39 2 (by decide)
        · refine fin (Or.inr ⟨rfl, k5, fun f hf => (k12 f hf).2.1, k13⟩) k11 k4 k6 (fun f hf => (k12 f hf).1) k14 k10 (fun X hX => ?_) ?_
          · unfold f_X7_run; rw [if_neg h0, if_pos h30, q_bind hF0, if_neg (show ¬ (1 : Int32) = 0 by decide), if_neg (show ¬ (1 : Int32) = 0 by decide), if_neg (show ¬ t_analysed = 0 by rw [k1]; decide)]
            unfold f_X7_run_63
            rw [if_neg (show ¬ (1 : Int32) = 0 by decide), k9, q_bind hX]
          · unfold f_X8_run; rw [if_neg h0, if_pos h30, if_neg hown, if_neg (show ¬ (1 : Int32) = 0 by decide), if_neg (show ¬ m_known = 0 by rw [k2]; decide)]


set_option maxHeartbeats 4000000 in
theorem op_done {N : Nat} (hN : 20000 ≤ N) {t_analysed : Int32} {tb_functionCount : Int32} {tb_entryCount : Int32} {tb_parameterCounts : Nat → Int32} {tb_lengths : Nat → Int32} {tb_fields : Nat → Int32} {tb_entries : Nat → Int32} {ta_functionCount : Int32} {ta_entryCount : Int32} {ta_parameterCounts : Nat → Int32} {ta_lengths : Nat → Int32} {ta_fields : Nat → Int32} {ta_entries : Nat → Int32} {tk_comeTo : Nat → Int32} {tk_any : Nat → Int32} {tk_numbers : Nat → Int32} {tf_waitingCount : Int32} {tfr_any : Nat → Int32} {tfr_numbers : Nat → Int32} {tf_isWaiting : Nat → Int32} {tf_waiting : Nat → Int32} {ty_doneCount : Int32} {ty_outputCount : Int32} {ty_outputValues : Nat → Int32} {ty_callCounts : Nat → Int32} {ty_latestValues : Nat → Int32} {ty_differing : Nat → Int32} {th_inputCount : Int32} {th_inputsRead : Int32} {th_openCount : Int32} {th_inputs : Nat → Int32} {th_openFunctions : Nat → Int32} {th_openStatements : Nat → Int32} {th_registers : Nat → Int32} {m_code : Int32} {m_own : Int32} {m_count : Int32} {m_tableSize : Int32} {m_given : Int32} {m_known : Int32} {m_news : Int32} {m_depth : Int32} {m_steps : Int32} {m_taken : Int32} {m_shown : Int32} {m_outcome : Int32} {m_parameters : Nat → Int32} {m_length : Nat → Int32} {m_newLength : Nat → Int32} {m_first : Nat → Int32} {m_now : Nat → Int32} {m_anew : Nat → Int32} {m_table : Nat → Int32} {m_inputs : Nat → Int32} {m_met : Nat → Int32} {m_any : Nat → Int32} {m_number : Nat → Int32} {m_outAny : Nat → Int32} {m_out : Nat → Int32} {m_at : Nat → Int32} {m_in : Nat → Int32} {m_back : Nat → Int32} {m_register : Nat → Int32} {m_output : Nat → Int32} {m_calls : Nat → Int32} {m_latest : Nat → Int32} {m_differ : Nat → Int32} (hRel : Rel t_analysed tb_functionCount tb_entryCount tb_parameterCounts tb_lengths tb_fields tb_entries ta_functionCount ta_entryCount ta_parameterCounts ta_lengths ta_fields ta_entries tk_comeTo tk_any tk_numbers tf_waitingCount tfr_any tfr_numbers tf_isWaiting tf_waiting ty_doneCount ty_outputCount ty_outputValues ty_callCounts ty_latestValues ty_differing th_inputCount th_inputsRead th_openCount th_inputs th_openFunctions th_openStatements th_registers m_code m_own m_count m_tableSize m_given m_known m_news m_depth m_steps m_taken m_shown m_outcome m_parameters m_length m_newLength m_first m_now m_anew m_table m_inputs m_met m_any m_number m_outAny m_out m_at m_in m_back m_register m_output m_calls m_latest m_differ) : ∃ (o : Int32) (o2 : Int32 × Int32), f_X7_done ty_doneCount = some o ∧ f_X8_done m_code m_steps = some o2 ∧ o = o2.1 ∧ Rel t_analysed tb_functionCount tb_entryCount tb_parameterCounts tb_lengths tb_fields tb_entries ta_functionCount ta_entryCount ta_parameterCounts ta_lengths ta_fields ta_entries tk_comeTo tk_any tk_numbers tf_waitingCount tfr_any tfr_numbers tf_isWaiting tf_waiting ty_doneCount ty_outputCount ty_outputValues ty_callCounts ty_latestValues ty_differing th_inputCount th_inputsRead th_openCount th_inputs th_openFunctions th_openStatements th_registers o2.2 m_own m_count m_tableSize m_given m_known m_news m_depth m_steps m_taken m_shown m_outcome m_parameters m_length m_newLength m_first m_now m_anew m_table m_inputs m_met m_any m_number m_outAny m_out m_at m_in m_back m_register m_output m_calls m_latest m_differ := by
  exact ⟨_, _, rfl, rfl, hRel.2.2.2.1.1, hRel⟩


set_option maxHeartbeats 4000000 in
theorem op_outputs {N : Nat} (hN : 20000 ≤ N) {t_analysed : Int32} {tb_functionCount : Int32} {tb_entryCount : Int32} {tb_parameterCounts : Nat → Int32} {tb_lengths : Nat → Int32} {tb_fields : Nat → Int32} {tb_entries : Nat → Int32} {ta_functionCount : Int32} {ta_entryCount : Int32} {ta_parameterCounts : Nat → Int32} {ta_lengths : Nat → Int32} {ta_fields : Nat → Int32} {ta_entries : Nat → Int32} {tk_comeTo : Nat → Int32} {tk_any : Nat → Int32} {tk_numbers : Nat → Int32} {tf_waitingCount : Int32} {tfr_any : Nat → Int32} {tfr_numbers : Nat → Int32} {tf_isWaiting : Nat → Int32} {tf_waiting : Nat → Int32} {ty_doneCount : Int32} {ty_outputCount : Int32} {ty_outputValues : Nat → Int32} {ty_callCounts : Nat → Int32} {ty_latestValues : Nat → Int32} {ty_differing : Nat → Int32} {th_inputCount : Int32} {th_inputsRead : Int32} {th_openCount : Int32} {th_inputs : Nat → Int32} {th_openFunctions : Nat → Int32} {th_openStatements : Nat → Int32} {th_registers : Nat → Int32} {m_code : Int32} {m_own : Int32} {m_count : Int32} {m_tableSize : Int32} {m_given : Int32} {m_known : Int32} {m_news : Int32} {m_depth : Int32} {m_steps : Int32} {m_taken : Int32} {m_shown : Int32} {m_outcome : Int32} {m_parameters : Nat → Int32} {m_length : Nat → Int32} {m_newLength : Nat → Int32} {m_first : Nat → Int32} {m_now : Nat → Int32} {m_anew : Nat → Int32} {m_table : Nat → Int32} {m_inputs : Nat → Int32} {m_met : Nat → Int32} {m_any : Nat → Int32} {m_number : Nat → Int32} {m_outAny : Nat → Int32} {m_out : Nat → Int32} {m_at : Nat → Int32} {m_in : Nat → Int32} {m_back : Nat → Int32} {m_register : Nat → Int32} {m_output : Nat → Int32} {m_calls : Nat → Int32} {m_latest : Nat → Int32} {m_differ : Nat → Int32} (hRel : Rel t_analysed tb_functionCount tb_entryCount tb_parameterCounts tb_lengths tb_fields tb_entries ta_functionCount ta_entryCount ta_parameterCounts ta_lengths ta_fields ta_entries tk_comeTo tk_any tk_numbers tf_waitingCount tfr_any tfr_numbers tf_isWaiting tf_waiting ty_doneCount ty_outputCount ty_outputValues ty_callCounts ty_latestValues ty_differing th_inputCount th_inputsRead th_openCount th_inputs th_openFunctions th_openStatements th_registers m_code m_own m_count m_tableSize m_given m_known m_news m_depth m_steps m_taken m_shown m_outcome m_parameters m_length m_newLength m_first m_now m_anew m_table m_inputs m_met m_any m_number m_outAny m_out m_at m_in m_back m_register m_output m_calls m_latest m_differ) : ∃ (o : Int32) (o2 : Int32 × Int32), f_X7_outputs ty_outputCount = some o ∧ f_X8_outputs m_code m_shown = some o2 ∧ o = o2.1 ∧ Rel t_analysed tb_functionCount tb_entryCount tb_parameterCounts tb_lengths tb_fields tb_entries ta_functionCount ta_entryCount ta_parameterCounts ta_lengths ta_fields ta_entries tk_comeTo tk_any tk_numbers tf_waitingCount tfr_any tfr_numbers tf_isWaiting tf_waiting ty_doneCount ty_outputCount ty_outputValues ty_callCounts ty_latestValues ty_differing th_inputCount th_inputsRead th_openCount th_inputs th_openFunctions th_openStatements th_registers o2.2 m_own m_count m_tableSize m_given m_known m_news m_depth m_steps m_taken m_shown m_outcome m_parameters m_length m_newLength m_first m_now m_anew m_table m_inputs m_met m_any m_number m_outAny m_out m_at m_in m_back m_register m_output m_calls m_latest m_differ := by
  exact ⟨_, _, rfl, rfl, hRel.2.2.2.1.2.1, hRel⟩


set_option maxHeartbeats 4000000 in
theorem op_output {N : Nat} (hN : 20000 ≤ N) {t_analysed : Int32} {tb_functionCount : Int32} {tb_entryCount : Int32} {tb_parameterCounts : Nat → Int32} {tb_lengths : Nat → Int32} {tb_fields : Nat → Int32} {tb_entries : Nat → Int32} {ta_functionCount : Int32} {ta_entryCount : Int32} {ta_parameterCounts : Nat → Int32} {ta_lengths : Nat → Int32} {ta_fields : Nat → Int32} {ta_entries : Nat → Int32} {tk_comeTo : Nat → Int32} {tk_any : Nat → Int32} {tk_numbers : Nat → Int32} {tf_waitingCount : Int32} {tfr_any : Nat → Int32} {tfr_numbers : Nat → Int32} {tf_isWaiting : Nat → Int32} {tf_waiting : Nat → Int32} {ty_doneCount : Int32} {ty_outputCount : Int32} {ty_outputValues : Nat → Int32} {ty_callCounts : Nat → Int32} {ty_latestValues : Nat → Int32} {ty_differing : Nat → Int32} {th_inputCount : Int32} {th_inputsRead : Int32} {th_openCount : Int32} {th_inputs : Nat → Int32} {th_openFunctions : Nat → Int32} {th_openStatements : Nat → Int32} {th_registers : Nat → Int32} {m_code : Int32} {m_own : Int32} {m_count : Int32} {m_tableSize : Int32} {m_given : Int32} {m_known : Int32} {m_news : Int32} {m_depth : Int32} {m_steps : Int32} {m_taken : Int32} {m_shown : Int32} {m_outcome : Int32} {m_parameters : Nat → Int32} {m_length : Nat → Int32} {m_newLength : Nat → Int32} {m_first : Nat → Int32} {m_now : Nat → Int32} {m_anew : Nat → Int32} {m_table : Nat → Int32} {m_inputs : Nat → Int32} {m_met : Nat → Int32} {m_any : Nat → Int32} {m_number : Nat → Int32} {m_outAny : Nat → Int32} {m_out : Nat → Int32} {m_at : Nat → Int32} {m_in : Nat → Int32} {m_back : Nat → Int32} {m_register : Nat → Int32} {m_output : Nat → Int32} {m_calls : Nat → Int32} {m_latest : Nat → Int32} {m_differ : Nat → Int32} (hRel : Rel t_analysed tb_functionCount tb_entryCount tb_parameterCounts tb_lengths tb_fields tb_entries ta_functionCount ta_entryCount ta_parameterCounts ta_lengths ta_fields ta_entries tk_comeTo tk_any tk_numbers tf_waitingCount tfr_any tfr_numbers tf_isWaiting tf_waiting ty_doneCount ty_outputCount ty_outputValues ty_callCounts ty_latestValues ty_differing th_inputCount th_inputsRead th_openCount th_inputs th_openFunctions th_openStatements th_registers m_code m_own m_count m_tableSize m_given m_known m_news m_depth m_steps m_taken m_shown m_outcome m_parameters m_length m_newLength m_first m_now m_anew m_table m_inputs m_met m_any m_number m_outAny m_out m_at m_in m_back m_register m_output m_calls m_latest m_differ) (x1 : Int32) : ∃ (o : (Int32) ⊕ String) (o2 : Int32 × Int32), f_X7_output x1 ty_outputCount ty_outputValues = some o ∧ (∀ E, o = .inr E → E = g_IO) ∧ f_X8_output x1 m_code m_shown m_output = some o2 ∧ o2.2 = g_kk [g_IO] o ∧ (∀ u, o = .inl u → u = o2.1) ∧ Rel t_analysed tb_functionCount tb_entryCount tb_parameterCounts tb_lengths tb_fields tb_entries ta_functionCount ta_entryCount ta_parameterCounts ta_lengths ta_fields ta_entries tk_comeTo tk_any tk_numbers tf_waitingCount tfr_any tfr_numbers tf_isWaiting tf_waiting ty_doneCount ty_outputCount ty_outputValues ty_callCounts ty_latestValues ty_differing th_inputCount th_inputsRead th_openCount th_inputs th_openFunctions th_openStatements th_registers o2.2 m_own m_count m_tableSize m_given m_known m_news m_depth m_steps m_taken m_shown m_outcome m_parameters m_length m_newLength m_first m_now m_anew m_table m_inputs m_met m_any m_number m_outAny m_out m_at m_in m_back m_register m_output m_calls m_latest m_differ := by
  obtain ⟨-, -, -, ⟨-, hs, ⟨k, hk, hsh, hv⟩, -⟩, -⟩ := id hRel
  have e1 : ty_outputCount = nI k := hs.trans hsh
  rcases pk_ix x1 (n := k) (by omega) with h | h | ⟨j, hj, rfl⟩
  · exact ⟨.inr g_IO, (0, 1), if_pos h, fun E hE => (Sum.inr.inj hE).symm, if_pos h, rfl, fun u hu => (by cases hu), hRel⟩
  · have h0 : ¬ x1 < 0 := q_nlt0 (by omega) h
    have h1 : ¬ x1 < nI k := q_nlt h
    exact ⟨.inr g_IO, (0, 1), by unfold f_X7_output; rw [e1, if_neg h0, if_neg h1], fun E hE => (Sum.inr.inj hE).symm, by unfold f_X8_output; rw [hsh, if_neg h0, if_neg h1]; rfl, rfl, fun u hu => (by cases hu), hRel⟩
  · have h0 := nI_pos (n := j) (by omega)
    have h1 := nI_lt hj (by omega : k < 2 ^ 31)
    exact ⟨.inl (ty_outputValues j), (m_output j, 0), by unfold f_X7_output; rw [e1, if_neg h0, if_pos h1, q_rd (by omega) (by omega)]; rfl, fun E hE => (by cases hE), by unfold f_X8_output; rw [hsh, if_neg h0, if_pos h1, q_rd (by omega) (by omega)]; rfl, rfl, fun u hu => by cases hu; exact hv j hj, hRel⟩


set_option maxHeartbeats 4000000 in
theorem op_calls {N : Nat} (hN : 20000 ≤ N) {t_analysed : Int32} {tb_functionCount : Int32} {tb_entryCount : Int32} {tb_parameterCounts : Nat → Int32} {tb_lengths : Nat → Int32} {tb_fields : Nat → Int32} {tb_entries : Nat → Int32} {ta_functionCount : Int32} {ta_entryCount : Int32} {ta_parameterCounts : Nat → Int32} {ta_lengths : Nat → Int32} {ta_fields : Nat → Int32} {ta_entries : Nat → Int32} {tk_comeTo : Nat → Int32} {tk_any : Nat → Int32} {tk_numbers : Nat → Int32} {tf_waitingCount : Int32} {tfr_any : Nat → Int32} {tfr_numbers : Nat → Int32} {tf_isWaiting : Nat → Int32} {tf_waiting : Nat → Int32} {ty_doneCount : Int32} {ty_outputCount : Int32} {ty_outputValues : Nat → Int32} {ty_callCounts : Nat → Int32} {ty_latestValues : Nat → Int32} {ty_differing : Nat → Int32} {th_inputCount : Int32} {th_inputsRead : Int32} {th_openCount : Int32} {th_inputs : Nat → Int32} {th_openFunctions : Nat → Int32} {th_openStatements : Nat → Int32} {th_registers : Nat → Int32} {m_code : Int32} {m_own : Int32} {m_count : Int32} {m_tableSize : Int32} {m_given : Int32} {m_known : Int32} {m_news : Int32} {m_depth : Int32} {m_steps : Int32} {m_taken : Int32} {m_shown : Int32} {m_outcome : Int32} {m_parameters : Nat → Int32} {m_length : Nat → Int32} {m_newLength : Nat → Int32} {m_first : Nat → Int32} {m_now : Nat → Int32} {m_anew : Nat → Int32} {m_table : Nat → Int32} {m_inputs : Nat → Int32} {m_met : Nat → Int32} {m_any : Nat → Int32} {m_number : Nat → Int32} {m_outAny : Nat → Int32} {m_out : Nat → Int32} {m_at : Nat → Int32} {m_in : Nat → Int32} {m_back : Nat → Int32} {m_register : Nat → Int32} {m_output : Nat → Int32} {m_calls : Nat → Int32} {m_latest : Nat → Int32} {m_differ : Nat → Int32} (hRel : Rel t_analysed tb_functionCount tb_entryCount tb_parameterCounts tb_lengths tb_fields tb_entries ta_functionCount ta_entryCount ta_parameterCounts ta_lengths ta_fields ta_entries tk_comeTo tk_any tk_numbers tf_waitingCount tfr_any tfr_numbers tf_isWaiting tf_waiting ty_doneCount ty_outputCount ty_outputValues ty_callCounts ty_latestValues ty_differing th_inputCount th_inputsRead th_openCount th_inputs th_openFunctions th_openStatements th_registers m_code m_own m_count m_tableSize m_given m_known m_news m_depth m_steps m_taken m_shown m_outcome m_parameters m_length m_newLength m_first m_now m_anew m_table m_inputs m_met m_any m_number m_outAny m_out m_at m_in m_back m_register m_output m_calls m_latest m_differ) (x1 : Int32) : ∃ (o : (Int32) ⊕ String) (o2 : Int32 × Int32), f_X7_calls x1 ty_callCounts = some o ∧ (∀ E, o = .inr E → E = g_IO) ∧ f_X8_calls x1 m_code m_calls = some o2 ∧ o2.2 = g_kk [g_IO] o ∧ (∀ u, o = .inl u → u = o2.1) ∧ Rel t_analysed tb_functionCount tb_entryCount tb_parameterCounts tb_lengths tb_fields tb_entries ta_functionCount ta_entryCount ta_parameterCounts ta_lengths ta_fields ta_entries tk_comeTo tk_any tk_numbers tf_waitingCount tfr_any tfr_numbers tf_isWaiting tf_waiting ty_doneCount ty_outputCount ty_outputValues ty_callCounts ty_latestValues ty_differing th_inputCount th_inputsRead th_openCount th_inputs th_openFunctions th_openStatements th_registers o2.2 m_own m_count m_tableSize m_given m_known m_news m_depth m_steps m_taken m_shown m_outcome m_parameters m_length m_newLength m_first m_now m_anew m_table m_inputs m_met m_any m_number m_outAny m_out m_at m_in m_back m_register m_output m_calls m_latest m_differ := by
  obtain ⟨-, -, -, ⟨-, -, -, hv, -⟩, -⟩ := id hRel
  rcases pk_ix x1 (n := 12) (by omega) with h | h | ⟨j, hj, rfl⟩
  · exact ⟨.inr g_IO, (0, 1), if_pos h, fun E hE => (Sum.inr.inj hE).symm, if_pos h, rfl, fun u hu => (by cases hu), hRel⟩
  · have h0 : ¬ x1 < 0 := q_nlt0 (by omega) h
    have h1 : ¬ x1 < 12 := q_nlt h
    exact ⟨.inr g_IO, (0, 1), by unfold f_X7_calls; rw [if_neg h0, if_neg h1], fun E hE => (Sum.inr.inj hE).symm, by unfold f_X8_calls; rw [if_neg h0, if_neg h1]; rfl, rfl, fun u hu => (by cases hu), hRel⟩
  · have h0 := nI_pos (n := j) (by omega)
    have h1 : nI j < 12 := nI_lt (b := 12) hj (by omega)
    exact ⟨.inl (ty_callCounts j), (m_calls j, 0), by unfold f_X7_calls; rw [if_neg h0, if_pos h1, q_rd (by omega) (by omega)]; rfl, fun E hE => (by cases hE), by unfold f_X8_calls; rw [if_neg h0, if_pos h1, q_rd (by omega) (by omega)]; rfl, rfl, fun u hu => by cases hu; exact hv j hj, hRel⟩


set_option maxHeartbeats 4000000 in
theorem op_same {N : Nat} (hN : 20000 ≤ N) {t_analysed : Int32} {tb_functionCount : Int32} {tb_entryCount : Int32} {tb_parameterCounts : Nat → Int32} {tb_lengths : Nat → Int32} {tb_fields : Nat → Int32} {tb_entries : Nat → Int32} {ta_functionCount : Int32} {ta_entryCount : Int32} {ta_parameterCounts : Nat → Int32} {ta_lengths : Nat → Int32} {ta_fields : Nat → Int32} {ta_entries : Nat → Int32} {tk_comeTo : Nat → Int32} {tk_any : Nat → Int32} {tk_numbers : Nat → Int32} {tf_waitingCount : Int32} {tfr_any : Nat → Int32} {tfr_numbers : Nat → Int32} {tf_isWaiting : Nat → Int32} {tf_waiting : Nat → Int32} {ty_doneCount : Int32} {ty_outputCount : Int32} {ty_outputValues : Nat → Int32} {ty_callCounts : Nat → Int32} {ty_latestValues : Nat → Int32} {ty_differing : Nat → Int32} {th_inputCount : Int32} {th_inputsRead : Int32} {th_openCount : Int32} {th_inputs : Nat → Int32} {th_openFunctions : Nat → Int32} {th_openStatements : Nat → Int32} {th_registers : Nat → Int32} {m_code : Int32} {m_own : Int32} {m_count : Int32} {m_tableSize : Int32} {m_given : Int32} {m_known : Int32} {m_news : Int32} {m_depth : Int32} {m_steps : Int32} {m_taken : Int32} {m_shown : Int32} {m_outcome : Int32} {m_parameters : Nat → Int32} {m_length : Nat → Int32} {m_newLength : Nat → Int32} {m_first : Nat → Int32} {m_now : Nat → Int32} {m_anew : Nat → Int32} {m_table : Nat → Int32} {m_inputs : Nat → Int32} {m_met : Nat → Int32} {m_any : Nat → Int32} {m_number : Nat → Int32} {m_outAny : Nat → Int32} {m_out : Nat → Int32} {m_at : Nat → Int32} {m_in : Nat → Int32} {m_back : Nat → Int32} {m_register : Nat → Int32} {m_output : Nat → Int32} {m_calls : Nat → Int32} {m_latest : Nat → Int32} {m_differ : Nat → Int32} (hRel : Rel t_analysed tb_functionCount tb_entryCount tb_parameterCounts tb_lengths tb_fields tb_entries ta_functionCount ta_entryCount ta_parameterCounts ta_lengths ta_fields ta_entries tk_comeTo tk_any tk_numbers tf_waitingCount tfr_any tfr_numbers tf_isWaiting tf_waiting ty_doneCount ty_outputCount ty_outputValues ty_callCounts ty_latestValues ty_differing th_inputCount th_inputsRead th_openCount th_inputs th_openFunctions th_openStatements th_registers m_code m_own m_count m_tableSize m_given m_known m_news m_depth m_steps m_taken m_shown m_outcome m_parameters m_length m_newLength m_first m_now m_anew m_table m_inputs m_met m_any m_number m_outAny m_out m_at m_in m_back m_register m_output m_calls m_latest m_differ) (x1 : Int32) (x2 : Int32) : ∃ (o : (Int32) ⊕ String) (o2 : Int32 × Int32), f_X7_same x1 x2 ty_callCounts ty_differing = some o ∧ (∀ E, o = .inr E → E = g_IO) ∧ f_X8_same x1 x2 m_code m_calls m_differ = some o2 ∧ o2.2 = g_kk [g_IO] o ∧ (∀ u, o = .inl u → u = o2.1) ∧ Rel t_analysed tb_functionCount tb_entryCount tb_parameterCounts tb_lengths tb_fields tb_entries ta_functionCount ta_entryCount ta_parameterCounts ta_lengths ta_fields ta_entries tk_comeTo tk_any tk_numbers tf_waitingCount tfr_any tfr_numbers tf_isWaiting tf_waiting ty_doneCount ty_outputCount ty_outputValues ty_callCounts ty_latestValues ty_differing th_inputCount th_inputsRead th_openCount th_inputs th_openFunctions th_openStatements th_registers o2.2 m_own m_count m_tableSize m_given m_known m_news m_depth m_steps m_taken m_shown m_outcome m_parameters m_length m_newLength m_first m_now m_anew m_table m_inputs m_met m_any m_number m_outAny m_out m_at m_in m_back m_register m_output m_calls m_latest m_differ := by
  obtain ⟨-, -, -, ⟨-, -, -, hc, -, hv⟩, -⟩ := id hRel
  rcases q_named x1 x2 with ⟨hA, hB⟩ | ⟨f, k, hf, hk, rfl, rfl, hA, hB⟩
  · refine ⟨.inr g_IO, (0, 1), ?_, fun E hE => (Sum.inr.inj hE).symm, ?_, rfl, fun u hu => (by cases hu), hRel⟩
    · unfold f_X7_same; rw [q_bind hA]; rfl
    · unfold f_X8_same; rw [q_bind hB]; rfl
  · have e : nI f * 3 + nI k = nI (3 * f + k) := by rw [show (3 : Int32) = nI 3 from rfl, pk_mul, nI_add, show f * 3 + k = 3 * f + k by omega]
    have e2 : 3 * nI f + nI k = nI (3 * f + k) := by rw [show (3 : Int32) = nI 3 from rfl, pk_mul, nI_add]
    have hX : f_X7_same (nI f) (nI k) ty_callCounts ty_differing = if m_calls f ≤ 0 then some (.inl 0) else if m_differ (3 * f + k) = 0 then some (.inl 1) else some (.inl 0) := by
      unfold f_X7_same; rw [q_bind hA, if_neg (by decide), q_bind (q_rd (by omega) (by omega)), hc f hf, e, q_bind (q_rd (by omega) (by omega)), hv _ (by omega)]
    have hM : f_X8_same (nI f) (nI k) m_code m_calls m_differ = if m_calls f ≤ 0 then some (0, 0) else if m_differ (3 * f + k) = 0 then some (1, 0) else some (0, 0) := by
      unfold f_X8_same; rw [q_bind hB, if_neg (by decide)]; unfold f_X8_same_15; rw [if_pos rfl, q_bind (q_rd (by omega) (by omega)), e2, q_bind (q_rd (by omega) (by omega))]
    by_cases h1 : m_calls f ≤ 0
    · exact ⟨.inl 0, (0, 0), by rw [hX, if_pos h1], fun E hE => (by cases hE), by rw [hM, if_pos h1], rfl, fun u hu => (by cases hu; rfl), hRel⟩
    · by_cases h2 : m_differ (3 * f + k) = 0
      · exact ⟨.inl 1, (1, 0), by rw [hX, if_neg h1, if_pos h2], fun E hE => (by cases hE), by rw [hM, if_neg h1, if_pos h2], rfl, fun u hu => (by cases hu; rfl), hRel⟩
      · exact ⟨.inl 0, (0, 0), by rw [hX, if_neg h1, if_neg h2], fun E hE => (by cases hE), by rw [hM, if_neg h1, if_neg h2], rfl, fun u hu => (by cases hu; rfl), hRel⟩


set_option maxHeartbeats 4000000 in
theorem op_latest {N : Nat} (hN : 20000 ≤ N) {t_analysed : Int32} {tb_functionCount : Int32} {tb_entryCount : Int32} {tb_parameterCounts : Nat → Int32} {tb_lengths : Nat → Int32} {tb_fields : Nat → Int32} {tb_entries : Nat → Int32} {ta_functionCount : Int32} {ta_entryCount : Int32} {ta_parameterCounts : Nat → Int32} {ta_lengths : Nat → Int32} {ta_fields : Nat → Int32} {ta_entries : Nat → Int32} {tk_comeTo : Nat → Int32} {tk_any : Nat → Int32} {tk_numbers : Nat → Int32} {tf_waitingCount : Int32} {tfr_any : Nat → Int32} {tfr_numbers : Nat → Int32} {tf_isWaiting : Nat → Int32} {tf_waiting : Nat → Int32} {ty_doneCount : Int32} {ty_outputCount : Int32} {ty_outputValues : Nat → Int32} {ty_callCounts : Nat → Int32} {ty_latestValues : Nat → Int32} {ty_differing : Nat → Int32} {th_inputCount : Int32} {th_inputsRead : Int32} {th_openCount : Int32} {th_inputs : Nat → Int32} {th_openFunctions : Nat → Int32} {th_openStatements : Nat → Int32} {th_registers : Nat → Int32} {m_code : Int32} {m_own : Int32} {m_count : Int32} {m_tableSize : Int32} {m_given : Int32} {m_known : Int32} {m_news : Int32} {m_depth : Int32} {m_steps : Int32} {m_taken : Int32} {m_shown : Int32} {m_outcome : Int32} {m_parameters : Nat → Int32} {m_length : Nat → Int32} {m_newLength : Nat → Int32} {m_first : Nat → Int32} {m_now : Nat → Int32} {m_anew : Nat → Int32} {m_table : Nat → Int32} {m_inputs : Nat → Int32} {m_met : Nat → Int32} {m_any : Nat → Int32} {m_number : Nat → Int32} {m_outAny : Nat → Int32} {m_out : Nat → Int32} {m_at : Nat → Int32} {m_in : Nat → Int32} {m_back : Nat → Int32} {m_register : Nat → Int32} {m_output : Nat → Int32} {m_calls : Nat → Int32} {m_latest : Nat → Int32} {m_differ : Nat → Int32} (hRel : Rel t_analysed tb_functionCount tb_entryCount tb_parameterCounts tb_lengths tb_fields tb_entries ta_functionCount ta_entryCount ta_parameterCounts ta_lengths ta_fields ta_entries tk_comeTo tk_any tk_numbers tf_waitingCount tfr_any tfr_numbers tf_isWaiting tf_waiting ty_doneCount ty_outputCount ty_outputValues ty_callCounts ty_latestValues ty_differing th_inputCount th_inputsRead th_openCount th_inputs th_openFunctions th_openStatements th_registers m_code m_own m_count m_tableSize m_given m_known m_news m_depth m_steps m_taken m_shown m_outcome m_parameters m_length m_newLength m_first m_now m_anew m_table m_inputs m_met m_any m_number m_outAny m_out m_at m_in m_back m_register m_output m_calls m_latest m_differ) (x1 : Int32) (x2 : Int32) : ∃ (o : (Int32) ⊕ String) (o2 : Int32 × Int32), f_X7_latest x1 x2 ty_latestValues = some o ∧ (∀ E, o = .inr E → E = g_IO) ∧ f_X8_latest x1 x2 m_code m_latest = some o2 ∧ o2.2 = g_kk [g_IO] o ∧ (∀ u, o = .inl u → u = o2.1) ∧ Rel t_analysed tb_functionCount tb_entryCount tb_parameterCounts tb_lengths tb_fields tb_entries ta_functionCount ta_entryCount ta_parameterCounts ta_lengths ta_fields ta_entries tk_comeTo tk_any tk_numbers tf_waitingCount tfr_any tfr_numbers tf_isWaiting tf_waiting ty_doneCount ty_outputCount ty_outputValues ty_callCounts ty_latestValues ty_differing th_inputCount th_inputsRead th_openCount th_inputs th_openFunctions th_openStatements th_registers o2.2 m_own m_count m_tableSize m_given m_known m_news m_depth m_steps m_taken m_shown m_outcome m_parameters m_length m_newLength m_first m_now m_anew m_table m_inputs m_met m_any m_number m_outAny m_out m_at m_in m_back m_register m_output m_calls m_latest m_differ := by
  obtain ⟨-, -, -, ⟨-, -, -, -, hv, -⟩, -⟩ := id hRel
  rcases q_named x1 x2 with ⟨hA, hB⟩ | ⟨f, k, hf, hk, rfl, rfl, hA, hB⟩
  · refine ⟨.inr g_IO, (0, 1), ?_, fun E hE => (Sum.inr.inj hE).symm, ?_, rfl, fun u hu => (by cases hu), hRel⟩
    · unfold f_X7_latest; rw [q_bind hA]; rfl
    · unfold f_X8_latest; rw [q_bind hB]; rfl
  · have e : nI f * 3 + nI k = nI (f * 3 + k) := by rw [show (3 : Int32) = nI 3 from rfl, pk_mul, nI_add]
    have e2 : 3 * nI f + nI k = nI (3 * f + k) := by rw [show (3 : Int32) = nI 3 from rfl, pk_mul, nI_add]
    refine ⟨.inl (ty_latestValues (f * 3 + k)), (m_latest (3 * f + k), 0), ?_, fun E hE => (by cases hE), ?_, rfl, fun u hu => ?_, hRel⟩
    · unfold f_X7_latest; rw [q_bind hA, if_neg (by decide), e, q_rd (by omega) (by omega)]; rfl
    · unfold f_X8_latest; rw [q_bind hB, if_neg (by decide)]; unfold f_X8_latest_15; rw [if_pos rfl, e2, q_rd (by omega) (by omega)]; rfl
    · cases hu
      show ty_latestValues (f * 3 + k) = m_latest (3 * f + k)
      rw [hv _ (by omega), show f * 3 + k = 3 * f + k by omega]
