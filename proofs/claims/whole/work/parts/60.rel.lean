/-! PURE 1: rows on reads and writes at a number; the relation -/
theorem q_rd {n k : Nat} {f : Nat → Int32} (h : k < n) (hn : n < 2 ^ 31) : g_rd n f (nI k) = some (f k) := by
  unfold g_rd; rw [if_neg (nI_in h hn), nI_clamp (by omega)]
theorem q_wr {n k : Nat} {f : Nat → Int32} {x : Int32} (h : k < n) (hn : n < 2 ^ 31) : g_wr n f (nI k) x = some (upd f k x) := by
  unfold g_wr; rw [if_neg (nI_in h hn), nI_clamp (by omega)]
theorem q_nar0 : vp_nar .boolean 0 = 0 := by decide
theorem q_nar1 : vp_nar .boolean 1 = 1 := by decide
theorem q_nar {x : Int32} (h : x = 0 ∨ x = 1) : vp_nar .boolean x = x := by rcases h with rfl | rfl <;> decide
theorem q_wz {n k : Nat} {f : Nat → Int32} {x : Int32} (h : k < n) (hn : n < 2 ^ 31) (hx : x = 0 ∨ x = 1) : g_wz n f (nI k) x = some (upd f k x) := by
  unfold g_wz; rw [if_neg (nI_in h hn), nI_clamp (by omega), q_nar hx]
theorem q_zr {x : Int32} (hx : x = 0 ∨ x = 1) : g_zr x = some x := by unfold g_zr; rw [if_pos hx]
theorem q_bind {α β : Type} {x : Option α} {v : α} {f : α → Option β} (h : x = some v) : x.bind f = f v := by rw [h]; rfl
theorem q_upd_s {f : Nat → Int32} {k : Nat} {x : Int32} : upd f k x k = x := if_pos rfl
theorem q_upd_n {f : Nat → Int32} {k j : Nat} {x : Int32} (h : j ≠ k) : upd f k x j = f j := if_neg h
theorem q_nlt {x y : Int32} (h : y ≤ x) : ¬ x < y := fun q => Int32.lt_irrefl (Int32.lt_of_lt_of_le q h)
theorem q_nlt0 {x : Int32} {k : Nat} (hk : k < 2 ^ 31) (h : nI k ≤ x) : ¬ x < 0 := q_nlt (Int32.le_trans (nI_pos' hk) h)
def B01 (n : Nat) (f : Nat → Int32) : Prop := ∀ k, k < n → f k = 0 ∨ f k = 1
/-- how many of A, B, C an operation uses -/
def usesN (op : Nat) : Nat := [1, 2, 2, 2, 2, 0, 1, 1, 0, 1, 3, 3, 0].getD op 0
/-- an operand: not 6 in the lowest three bits -/
def isOpd (o : Int32) : Prop := ∃ k : Nat, k < 8 ∧ k ≠ 6 ∧ o &&& 7 = nI k
/-- a good statement of a program of n functions, its six fields from place k on -/
def WS (n : Nat) (F : Nat → Int32) (k : Nat) : Prop := ∃ op d : Nat, op ≤ 12 ∧ d < 6 ∧ F k = nI op ∧ F (k + 1) = nI d ∧ (∀ j, j < usesN op → isOpd (F (k + 3 + j))) ∧
  (op = 7 ∨ op = 8 → ∃ x : Nat, x ≤ 16 ∧ F (k + 2) = nI x) ∧ (op = 10 → ∃ g : Nat, g < n ∧ F (k + 2) = nI g) ∧ (op = 11 → isOpd (F (k + 2)))
/-- a good program: n functions of pn parameters and ln statements, a table of e -/
def WP (n : Nat) (pn ln : Nat → Nat) (pc ls F : Nat → Int32) (e : Nat) (en : Nat → Int32) : Prop :=
  (∀ f, f < n → pc f = nI (pn f) ∧ pn f ≤ 3 ∧ ls f = nI (ln f) ∧ ln f ≤ 16) ∧ pn 0 = 0 ∧ (∀ f, f < n → ∀ i, i < ln f → WS n F (96 * f + 6 * i)) ∧ ∀ j, j < e → ∃ g : Nat, g < n ∧ en j = nI g
/-- the program of before -/
def RB (tb_functionCount tb_entryCount : Int32) (tb_parameterCounts tb_lengths tb_fields tb_entries : Nat → Int32) (m_own m_tableSize : Int32) (m_parameters m_length m_first m_table : Nat → Int32) : Prop :=
  ∃ (n e : Nat) (pn ln : Nat → Nat), n ≤ 6 ∧ e ≤ 4 ∧ tb_functionCount = nI n ∧ m_own = nI n ∧ tb_entryCount = nI e ∧ m_tableSize = nI e ∧ WP n pn ln tb_parameterCounts tb_lengths tb_fields e tb_entries ∧
    (∀ f, f < n → m_parameters f = nI (pn f) ∧ m_length f = nI (ln f)) ∧ (∀ f, f < n → ∀ i, i < ln f → ∀ w, w < 6 → m_first (96 * f + 6 * i + w) = tb_fields (96 * f + 6 * i + w)) ∧ ∀ j, j < e → m_table j = tb_entries j
/-- what is known, and the new program -/
def RA (ta_functionCount ta_entryCount : Int32) (ta_parameterCounts ta_lengths ta_fields ta_entries tk_comeTo tk_any tk_numbers : Nat → Int32) (m_count m_tableSize : Int32) (m_parameters m_length m_newLength m_anew m_table m_met m_any m_number : Nat → Int32) : Prop :=
  ∃ (n e : Nat) (pn ln nl : Nat → Nat), 0 < n ∧ n ≤ 12 ∧ e ≤ 4 ∧ m_count = nI n ∧ ta_functionCount = nI n ∧ ta_entryCount = nI e ∧ m_tableSize = nI e ∧ WP n pn nl ta_parameterCounts ta_lengths ta_fields e ta_entries ∧
    (∀ f, f < n → m_parameters f = nI (pn f) ∧ m_newLength f = nI (nl f) ∧ m_length f = nI (ln f) ∧ ln f ≤ 16 ∧ (nl f = ln f ∨ (nl f = 0 ∧ ∀ p, p ≤ ln f → m_met (17 * f + p) = 0))) ∧
    (∀ f, f < n → ∀ i, i < nl f → ∀ w, w < 6 → m_anew (96 * f + 6 * i + w) = ta_fields (96 * f + 6 * i + w)) ∧ (∀ j, j < e → m_table j = ta_entries j) ∧
    ∀ f, f < n → ∀ p, p ≤ ln f → tk_comeTo (17 * f + p) = m_met (17 * f + p) ∧ (m_met (17 * f + p) ≠ 0 → ∀ r, r < 6 → tk_any (6 * (17 * f + p) + r) = m_any (6 * (17 * f + p) + r) ∧ (m_any (6 * (17 * f + p) + r) ≠ 0 → m_number (6 * (17 * f + p) + r) = 0) ∧ (m_any (6 * (17 * f + p) + r) = 0 → tk_numbers (6 * (17 * f + p) + r) = m_number (6 * (17 * f + p) + r)))
def RK (t_analysed ta_functionCount ta_entryCount : Int32) (ta_parameterCounts ta_lengths ta_fields ta_entries tk_comeTo tk_any tk_numbers : Nat → Int32) (m_own m_count m_tableSize m_known : Int32) (m_parameters m_length m_newLength m_anew m_table m_met m_any m_number : Nat → Int32) : Prop :=
  (t_analysed = 0 ∧ m_known = 0 ∧ m_count = m_own) ∨ (t_analysed = 1 ∧ m_known = 1 ∧ m_own ≠ 0 ∧ RA ta_functionCount ta_entryCount ta_parameterCounts ta_lengths ta_fields ta_entries tk_comeTo tk_any tk_numbers m_count m_tableSize m_parameters m_length m_newLength m_anew m_table m_met m_any m_number)
def RI (th_inputCount : Int32) (th_inputs : Nat → Int32) (m_given : Int32) (m_inputs : Nat → Int32) : Prop := ∃ g : Nat, g ≤ 12 ∧ th_inputCount = nI g ∧ m_given = nI g ∧ ∀ j, j < g → th_inputs j = m_inputs j
def RT (ty_doneCount ty_outputCount : Int32) (ty_outputValues ty_callCounts ty_latestValues ty_differing : Nat → Int32) (m_steps m_shown : Int32) (m_output m_calls m_latest m_differ : Nat → Int32) : Prop :=
  ty_doneCount = m_steps ∧ ty_outputCount = m_shown ∧ (∃ k : Nat, k ≤ 40 ∧ m_shown = nI k ∧ ∀ j, j < k → ty_outputValues j = m_output j) ∧ (∀ f, f < 12 → ty_callCounts f = m_calls f) ∧ (∀ q, q < 36 → ty_latestValues q = m_latest q) ∧ ∀ q, q < 36 → ty_differing q = m_differ q
/-- the finder at rest; rows of truths -/
def RF (tf_waitingCount : Int32) (tf_isWaiting tk_comeTo tk_any tfr_any ty_differing m_met m_any m_outAny m_differ : Nat → Int32) : Prop :=
  tf_waitingCount = 0 ∧ (∀ k, k < 204 → tf_isWaiting k = 0) ∧ B01 204 tk_comeTo ∧ B01 1224 tk_any ∧ B01 6 tfr_any ∧ B01 36 ty_differing ∧ B01 204 m_met ∧ B01 1224 m_any ∧ B01 6 m_outAny ∧ B01 36 m_differ
def Rel (t_analysed : Int32) (tb_functionCount : Int32) (tb_entryCount : Int32) (tb_parameterCounts : Nat → Int32) (tb_lengths : Nat → Int32) (tb_fields : Nat → Int32) (tb_entries : Nat → Int32) (ta_functionCount : Int32) (ta_entryCount : Int32) (ta_parameterCounts : Nat → Int32) (ta_lengths : Nat → Int32) (ta_fields : Nat → Int32) (ta_entries : Nat → Int32) (tk_comeTo : Nat → Int32) (tk_any : Nat → Int32) (tk_numbers : Nat → Int32) (tf_waitingCount : Int32) (tfr_any : Nat → Int32) (tfr_numbers : Nat → Int32) (tf_isWaiting : Nat → Int32) (tf_waiting : Nat → Int32) (ty_doneCount : Int32) (ty_outputCount : Int32) (ty_outputValues : Nat → Int32) (ty_callCounts : Nat → Int32) (ty_latestValues : Nat → Int32) (ty_differing : Nat → Int32) (th_inputCount : Int32) (th_inputsRead : Int32) (th_openCount : Int32) (th_inputs : Nat → Int32) (th_openFunctions : Nat → Int32) (th_openStatements : Nat → Int32) (th_registers : Nat → Int32) (m_code : Int32) (m_own : Int32) (m_count : Int32) (m_tableSize : Int32) (m_given : Int32) (m_known : Int32) (m_news : Int32) (m_depth : Int32) (m_steps : Int32) (m_taken : Int32) (m_shown : Int32) (m_outcome : Int32) (m_parameters : Nat → Int32) (m_length : Nat → Int32) (m_newLength : Nat → Int32) (m_first : Nat → Int32) (m_now : Nat → Int32) (m_anew : Nat → Int32) (m_table : Nat → Int32) (m_inputs : Nat → Int32) (m_met : Nat → Int32) (m_any : Nat → Int32) (m_number : Nat → Int32) (m_outAny : Nat → Int32) (m_out : Nat → Int32) (m_at : Nat → Int32) (m_in : Nat → Int32) (m_back : Nat → Int32) (m_register : Nat → Int32) (m_output : Nat → Int32) (m_calls : Nat → Int32) (m_latest : Nat → Int32) (m_differ : Nat → Int32) : Prop :=
  RB tb_functionCount tb_entryCount tb_parameterCounts tb_lengths tb_fields tb_entries m_own m_tableSize m_parameters m_length m_first m_table ∧
  RK t_analysed ta_functionCount ta_entryCount ta_parameterCounts ta_lengths ta_fields ta_entries tk_comeTo tk_any tk_numbers m_own m_count m_tableSize m_known m_parameters m_length m_newLength m_anew m_table m_met m_any m_number ∧
  RI th_inputCount th_inputs m_given m_inputs ∧
  RT ty_doneCount ty_outputCount ty_outputValues ty_callCounts ty_latestValues ty_differing m_steps m_shown m_output m_calls m_latest m_differ ∧
  RF tf_waitingCount tf_isWaiting tk_comeTo tk_any tfr_any ty_differing m_met m_any m_outAny m_differ
theorem rel_init : Rel 0 0 0 (fun _ => 0) (fun _ => 0) (fun _ => 0) (fun _ => 0) 0 0 (fun _ => 0) (fun _ => 0) (fun _ => 0) (fun _ => 0) (fun _ => 0) (fun _ => 0) (fun _ => 0) 0 (fun _ => 0) (fun _ => 0) (fun _ => 0) (fun _ => 0) 0 0 (fun _ => 0) (fun _ => 0) (fun _ => 0) (fun _ => 0) 0 0 0 (fun _ => 0) (fun _ => 0) (fun _ => 0) (fun _ => 0) 0 0 0 0 0 0 0 0 0 0 0 0 (fun _ => 0) (fun _ => 0) (fun _ => 0) (fun _ => 0) (fun _ => 0) (fun _ => 0) (fun _ => 0) (fun _ => 0) (fun _ => 0) (fun _ => 0) (fun _ => 0) (fun _ => 0) (fun _ => 0) (fun _ => 0) (fun _ => 0) (fun _ => 0) (fun _ => 0) (fun _ => 0) (fun _ => 0) (fun _ => 0) (fun _ => 0) := by
  refine ⟨⟨0, 0, fun _ => 0, fun _ => 0, by omega, by omega, rfl, rfl, rfl, rfl, ⟨fun f h => absurd h (Nat.not_lt_zero f), rfl, fun f h => absurd h (Nat.not_lt_zero f), fun f h => absurd h (Nat.not_lt_zero f)⟩, fun f h => absurd h (Nat.not_lt_zero f), fun f h => absurd h (Nat.not_lt_zero f), fun f h => absurd h (Nat.not_lt_zero f)⟩, Or.inl ⟨rfl, rfl, rfl⟩, ⟨0, by omega, rfl, rfl, fun f h => absurd h (Nat.not_lt_zero f)⟩, ⟨rfl, rfl, ⟨0, by omega, rfl, fun f h => absurd h (Nat.not_lt_zero f)⟩, fun _ _ => rfl, fun _ _ => rfl, fun _ _ => rfl⟩, rfl, fun _ _ => rfl, fun _ _ => Or.inl rfl, fun _ _ => Or.inl rfl, fun _ _ => Or.inl rfl, fun _ _ => Or.inl rfl, fun _ _ => Or.inl rfl, fun _ _ => Or.inl rfl, fun _ _ => Or.inl rfl, fun _ _ => Or.inl rfl⟩

