/-! PURE 21: one statement is renewed -/
theorem q_or7 (x : Int32) : (x ||| 7) &&& 7 = 7 := Int32.toBitVec_inj.mp (by
  rw [Int32.toBitVec_and, Int32.toBitVec_or]
  apply BitVec.eq_of_getLsbD_eq
  intro i hi
  rw [BitVec.getLsbD_and, BitVec.getLsbD_or]
  cases x.toBitVec.getLsbD i <;> cases (7 : Int32).toBitVec.getLsbD i <;> rfl)
def opo (y : Int32) : Int32 := (y <<< (3 &&& 31)) ||| 7
theorem isOpd_o (y : Int32) : isOpd (opo y) := ⟨7, by omega, by omega, q_or7 _⟩
def rnv (v : Nat → Option Int32) (o : Int32) : Int32 := ((opv v o).map opo).getD o
theorem rnv_n {v : Nat → Option Int32} {o : Int32} (h : opv v o = none) : rnv v o = o := by unfold rnv; rw [h]; rfl
theorem rnv_s {v : Nat → Option Int32} {o y : Int32} (h : opv v o = some y) : rnv v o = opo y := by unfold rnv; rw [h]; rfl
theorem rnv_o {v : Nat → Option Int32} {o : Int32} (h : isOpd o) : isOpd (rnv v o) := by
  cases e : opv v o with
  | none => rw [rnv_n e]; exact h
  | some y => rw [rnv_s e]; exact isOpd_o y
def rnw (v : Nat → Option Int32) (F : Nat → Int32) (k u c w : Nat) : Int32 := if (3 ≤ w ∧ w < 3 + u) ∨ (w = 2 ∧ c = 11) then rnv v (F (k + w)) else F (k + w)
theorem q_rnO {f i w : Nat} (hf : f < 12) (hi : i < 16) (hw : w < 6) {ls G an nu : Nat → Int32} (hp : f_X4_placeOf (nI f) (nI i) ls = some (nI (17 * f + i))) (ho : isOpd (G (96 * f + 6 * i + w))) : ∃ G', f_X3_renewOperand (nI f) (nI i) (nI w) ls G an nu = some G' ∧ G' (96 * f + 6 * i + w) = rnv (kV an nu (17 * f + i)) (G (96 * f + 6 * i + w)) ∧ ∀ x, x ≠ 96 * f + 6 * i + w → G' x = G x := by
  unfold f_X3_renewOperand
  rw [q_bind hp, q_bind (q_fieldOf hf hi hw)]
  rcases q_has (q := 17 * f + i) (by omega) ho an nu with ⟨a, b, _⟩ | ⟨y, a, b, c, _⟩
  · exact ⟨G, by rw [q_bind b, if_pos rfl], (rnv_n a).symm, fun _ _ => rfl⟩
  · exact ⟨upd G (96 * f + 6 * i + w) (opo y), by rw [q_bind b, if_neg (show ¬ (1 : Int32) = 0 by decide), q_bind c, q_bind (show f_X7_operandOf y = some (opo y) from rfl), q_bind (q_putField hf hi hw)], by rw [q_upd_s]; exact (rnv_s a).symm, fun x hx => q_upd_n hx⟩
/-- the class's loop over the operands that are used -/
theorem q_rn47 {f i op : Nat} (hf : f < 12) (hi : i < 16) (hop : op ≤ 12) (N : Nat) (te : Int32) {ls G0 F en ct an nu : Nat → Int32} (hp : f_X4_placeOf (nI f) (nI i) ls = some (nI (17 * f + i))) (ho : ∀ j, j < usesN op → isOpd (F (96 * f + 6 * i + 3 + j))) : ∀ (j r m : Nat) (G : Nat → Int32), r + j = usesN op → (∀ w, w < 6 → G (96 * f + 6 * i + w) = rnw (kV an nu (17 * f + i)) F (96 * f + 6 * i) r 0 w) → (∀ x, x < 96 * f + 6 * i ∨ 96 * f + 6 * i + 6 ≤ x → G x = G0 x) → ∃ G', (∀ w, w < 6 → G' (96 * f + 6 * i + w) = rnw (kV an nu (17 * f + i)) F (96 * f + 6 * i) (usesN op) 0 w) ∧ (∀ x, x < 96 * f + 6 * i ∨ 96 * f + 6 * i + 6 ≤ x → G' x = G0 x) ∧ f_X3_renew_47 N (nI f) (nI i) te ls en ct an nu (m + 1 + j) (nI op) (nI r) G = if nI op = 7 then (f_X3_renewIf (nI f) (nI i) G').bind (fun o7 => some o7) else if nI op = 11 then (f_X3_renewOperand (nI f) (nI i) 2 ls G' an nu).bind (fun o5 => (f_X3_renewTableCall (nI f) (nI i) te o5 en).bind (fun o6 => some o6)) else some G' := by
  obtain ⟨_, u1, u2⟩ := q_uses op hop
  intro j
  induction j with
  | zero =>
    intro r m G hr h1 h2
    obtain rfl : r = usesN op := by omega
    exact ⟨G, h1, h2, by rw [show m + 1 + 0 = m + 1 from rfl, f_X3_renew_47, q_bind u1, if_pos (nI_le (by omega) (by omega))]⟩
  | succ j ih =>
    intro r m G hr h1 h2
    have hw := h1 (3 + r) (by omega)
    have hwF : G (96 * f + 6 * i + (3 + r)) = F (96 * f + 6 * i + (3 + r)) := by rw [hw]; exact if_neg (by omega)
    obtain ⟨G', a, b, c⟩ := q_rnO (w := 3 + r) (an := an) (nu := nu) hf hi (by omega) hp (G := G) (by rw [hwF, ← Nat.add_assoc]; exact ho r (by omega))
    obtain ⟨G2, d1, d2, d3⟩ := ih (r + 1) m G' (by omega) (fun w hw6 => by
      by_cases e : w = 3 + r
      · subst e
        rw [b, hwF]
        exact (if_pos (Or.inl ⟨by omega, by omega⟩)).symm
      · rw [c _ (by omega), h1 w hw6]
        unfold rnw
        by_cases hc : (3 ≤ w ∧ w < 3 + r) ∨ (w = 2 ∧ 0 = 11)
        · rw [if_pos hc, if_pos (by omega)]
        · rw [if_neg hc, if_neg (by omega)]) (fun x hx => by rw [c x (by omega)]; exact h2 x hx)
    refine ⟨G2, d1, d2, ?_⟩
    rw [show m + 1 + (j + 1) = m + 1 + j + 1 from rfl, f_X3_renew_47, q_bind u1, if_neg (nI_ge (by omega) (by omega)), show (3 : Int32) + nI r = nI (3 + r) from nI_add 3 r, q_bind a, nI_1]
    exact d3
/-- the reference's loop over the fields -/
theorem q_rn127 {f i op x6 : Nat} (hf : f < 12) (hi : i < 16) (hx : x6 < 6) (N : Nat) (k82 : Int32 → Int32 → Int32 → Int32 → (Nat → Int32) → Option (Nat → Int32)) (x1 x2 te x5 : Int32) {now tab ct' an nu an' nu' : Nat → Int32} (hrow : ∀ r, r < 6 → kV an nu (17 * f + i) r = kV an' nu' (17 * f + i) r) (A : Nat → Int32) : f_X8_renew_127 N k82 x1 x2 te now tab ct' an' nu' (nI (96 * f + 6 * i)) (nI (17 * f + i)) x5 (nI x6) 0 A = k82 (nI (96 * f + 6 * i)) (nI (17 * f + i)) x5 (nI (x6 + 1)) A ∧ (isOpd (now (96 * f + 6 * i + x6)) → ∃ A', f_X8_renew_127 N k82 x1 x2 te now tab ct' an' nu' (nI (96 * f + 6 * i)) (nI (17 * f + i)) x5 (nI x6) 1 A = k82 (nI (96 * f + 6 * i)) (nI (17 * f + i)) x5 (nI (x6 + 1)) A' ∧ (∀ x, x ≠ 96 * f + 6 * i + x6 → A' x = A x) ∧ (A (96 * f + 6 * i + x6) = now (96 * f + 6 * i + x6) → A' (96 * f + 6 * i + x6) = rnv (kV an nu (17 * f + i)) (now (96 * f + 6 * i + x6)))) := by
  unfold f_X8_renew_127
  refine ⟨by rw [if_pos rfl, nI_1], fun ho => ?_⟩
  rw [if_neg (show ¬ (1 : Int32) = 0 by decide), nI_add, q_bind (q_rd (n := 1152) (f := now) (by omega) (by omega)), nI_1]
  rcases q_has2 (q := 17 * f + i) (by omega) ho hrow with ⟨a, _, b⟩ | ⟨y, a, _, _, b, c⟩
  · exact ⟨A, by rw [q_bind b, if_pos rfl], fun _ _ => rfl, fun h => by rw [rnv_n a]; exact h⟩
  · exact ⟨upd A (96 * f + 6 * i + x6) (opo y), by rw [q_bind b, if_neg (show ¬ (1 : Int32) = 0 by decide), q_bind (q_rd (n := 1152) (f := now) (by omega) (by omega)), q_bind c, q_bind (show f_X8_operandOf y = some (opo y) from rfl), q_bind (q_wr (by omega) (by omega))], fun x hx => q_upd_n hx, fun _ => by rw [q_upd_s, rnv_s a]⟩
theorem q_rn82 {f i op : Nat} (hf : f < 12) (hi : i < 16) (hop : op ≤ 12) (N : Nat) (x1 x2 te : Int32) {F A0 now tab ct' an nu an' nu' : Nat → Int32} (hrow : ∀ r, r < 6 → kV an nu (17 * f + i) r = kV an' nu' (17 * f + i) r) (hnow : ∀ w, w < 6 → now (96 * f + 6 * i + w) = F (96 * f + 6 * i + w)) (ho : ∀ j, j < usesN op → isOpd (F (96 * f + 6 * i + 3 + j))) (h11 : op = 11 → isOpd (F (96 * f + 6 * i + 2))) : ∀ (j x6 m : Nat) (A : Nat → Int32), 2 ≤ x6 → x6 + j = 6 → (∀ w, w < 6 → A (96 * f + 6 * i + w) = if w < x6 then rnw (kV an nu (17 * f + i)) F (96 * f + 6 * i) (usesN op) op w else F (96 * f + 6 * i + w)) → (∀ x, x < 96 * f + 6 * i ∨ 96 * f + 6 * i + 6 ≤ x → A x = A0 x) → ∃ A', (∀ w, w < 6 → A' (96 * f + 6 * i + w) = rnw (kV an nu (17 * f + i)) F (96 * f + 6 * i) (usesN op) op w) ∧ (∀ x, x < 96 * f + 6 * i ∨ 96 * f + 6 * i + 6 ≤ x → A' x = A0 x) ∧ f_X8_renew_82 N x1 x2 te now tab ct' an' nu' (m + 1 + j) (nI (96 * f + 6 * i)) (nI (17 * f + i)) (nI op) (nI x6) A = f_X8_renew_82 N x1 x2 te now tab ct' an' nu' (m + 1) (nI (96 * f + 6 * i)) (nI (17 * f + i)) (nI op) 6 A' := by
  obtain ⟨u0, _, u2⟩ := q_uses op hop
  intro j
  induction j with
  | zero =>
    intro x6 m A h2 hx h3 h4
    obtain rfl : x6 = 6 := by omega
    exact ⟨A, fun w hw => by rw [h3 w hw, if_pos hw], h4, rfl⟩
  | succ j ih =>
    intro x6 m A h2 hx h3 h4
    refine Classical.byContradiction (fun hgoal => ?_)
    have hA6 : A (96 * f + 6 * i + x6) = now (96 * f + 6 * i + x6) := by rw [h3 x6 (by omega), if_neg (by omega), hnow x6 (by omega)]
    have go : ∀ A1 : Nat → Int32, (∀ x, x ≠ 96 * f + 6 * i + x6 → A1 x = A x) → A1 (96 * f + 6 * i + x6) = rnw (kV an nu (17 * f + i)) F (96 * f + 6 * i) (usesN op) op x6 → f_X8_renew_82 N x1 x2 te now tab ct' an' nu' (m + 1 + (j + 1)) (nI (96 * f + 6 * i)) (nI (17 * f + i)) (nI op) (nI x6) A = f_X8_renew_82 N x1 x2 te now tab ct' an' nu' (m + 1 + j) (nI (96 * f + 6 * i)) (nI (17 * f + i)) (nI op) (nI (x6 + 1)) A1 → False := fun A1 g1 g2 g3 => hgoal (by
      rw [g3]
      refine ih (x6 + 1) m A1 (by omega) (by omega) (fun w hw => ?_) (fun x hx => by rw [g1 x (by omega)]; exact h4 x hx)
      by_cases e : w = x6
      · subst e; rw [g2, if_pos (by omega)]
      · rw [g1 _ (by omega), h3 w hw]
        by_cases hwx : w < x6
        · rw [if_pos hwx, if_pos (by omega)]
        · rw [if_neg hwx, if_neg (by omega)])
    obtain ⟨z, o⟩ := q_rn127 (op := op) (x6 := x6) hf hi (by omega) N (f_X8_renew_82 N x1 x2 te now tab ct' an' nu' (m + 1 + j)) x1 x2 te (nI op) (now := now) (tab := tab) (ct' := ct') hrow A
    have start : f_X8_renew_82 N x1 x2 te now tab ct' an' nu' (m + 1 + (j + 1)) (nI (96 * f + 6 * i)) (nI (17 * f + i)) (nI op) (nI x6) A = if nI x6 = 2 then if nI op = 11 then f_X8_renew_127 N (f_X8_renew_82 N x1 x2 te now tab ct' an' nu' (m + 1 + j)) x1 x2 te now tab ct' an' nu' (nI (96 * f + 6 * i)) (nI (17 * f + i)) (nI op) (nI x6) 1 A else f_X8_renew_127 N (f_X8_renew_82 N x1 x2 te now tab ct' an' nu' (m + 1 + j)) x1 x2 te now tab ct' an' nu' (nI (96 * f + 6 * i)) (nI (17 * f + i)) (nI op) (nI x6) 0 A else if nI (usesN op) ≤ nI x6 - 3 then f_X8_renew_127 N (f_X8_renew_82 N x1 x2 te now tab ct' an' nu' (m + 1 + j)) x1 x2 te now tab ct' an' nu' (nI (96 * f + 6 * i)) (nI (17 * f + i)) (nI op) (nI x6) 0 A else f_X8_renew_127 N (f_X8_renew_82 N x1 x2 te now tab ct' an' nu' (m + 1 + j)) x1 x2 te now tab ct' an' nu' (nI (96 * f + 6 * i)) (nI (17 * f + i)) (nI op) (nI x6) 1 A := by
      rw [show m + 1 + (j + 1) = m + 1 + j + 1 from rfl, f_X8_renew_82, if_neg (show ¬ (6 : Int32) ≤ nI x6 from nI_ge (b := 6) (by omega) (by omega)), q_bind u0]
    have yes : isOpd (F (96 * f + 6 * i + x6)) → (3 ≤ x6 ∧ x6 < 3 + usesN op) ∨ (x6 = 2 ∧ op = 11) → f_X8_renew_82 N x1 x2 te now tab ct' an' nu' (m + 1 + (j + 1)) (nI (96 * f + 6 * i)) (nI (17 * f + i)) (nI op) (nI x6) A = f_X8_renew_127 N (f_X8_renew_82 N x1 x2 te now tab ct' an' nu' (m + 1 + j)) x1 x2 te now tab ct' an' nu' (nI (96 * f + 6 * i)) (nI (17 * f + i)) (nI op) (nI x6) 1 A → False := fun h hc he => by
      obtain ⟨A1, a1, a2, a3⟩ := o (by rw [hnow x6 (by omega)]; exact h)
      refine go A1 a2 ?_ (he.trans a1)
      rw [a3 hA6, hnow x6 (by omega)]; exact (if_pos hc).symm
    have no : ¬ ((3 ≤ x6 ∧ x6 < 3 + usesN op) ∨ (x6 = 2 ∧ op = 11)) → f_X8_renew_82 N x1 x2 te now tab ct' an' nu' (m + 1 + (j + 1)) (nI (96 * f + 6 * i)) (nI (17 * f + i)) (nI op) (nI x6) A = f_X8_renew_127 N (f_X8_renew_82 N x1 x2 te now tab ct' an' nu' (m + 1 + j)) x1 x2 te now tab ct' an' nu' (nI (96 * f + 6 * i)) (nI (17 * f + i)) (nI op) (nI x6) 0 A → False := fun hc he => by
      refine go A (fun _ _ => rfl) ?_ (he.trans z)
      rw [hA6, hnow x6 (by omega)]; exact (if_neg hc).symm
    by_cases h6 : x6 = 2
    · subst h6
      rw [if_pos (show nI 2 = 2 from rfl)] at start
      by_cases ho11 : op = 11
      · rw [if_pos (show nI op = 11 by rw [ho11]; rfl)] at start
        exact yes (h11 ho11) (Or.inr ⟨rfl, ho11⟩) start
      · rw [if_neg (show ¬ nI op = 11 from fun q => ho11 ((nI_eq (b := 11) (by omega) (by omega)).mp q))] at start
        exact no (by omega) start
    · have s3 : nI x6 - 3 = nI (x6 - 3) := by rcases (show x6 = 3 ∨ x6 = 4 ∨ x6 = 5 by omega) with rfl | rfl | rfl <;> decide
      rw [if_neg (show ¬ nI x6 = 2 from fun q => h6 ((nI_eq (b := 2) (by omega) (by omega)).mp q)), s3] at start
      by_cases hu : usesN op ≤ x6 - 3
      · rw [if_pos (nI_le hu (by omega))] at start
        exact no (by omega) start
      · rw [if_neg (nI_ge (by omega) (by omega))] at start
        have := ho (x6 - 3) (by omega)
        rw [show 96 * f + 6 * i + 3 + (x6 - 3) = 96 * f + 6 * i + x6 by omega] at this
        exact yes this (by omega) start
theorem q_rn21 {f i : Nat} (hf : f < 12) (hi : i < 16) (N : Nat) (x1 x2 te : Int32) {A0 now tab ct' an' nu' : Nat → Int32} : ∀ (j x m : Nat) (A : Nat → Int32), x + j = 6 → (∀ w, w < x → A (96 * f + 6 * i + w) = now (96 * f + 6 * i + w)) → (∀ x, x < 96 * f + 6 * i ∨ 96 * f + 6 * i + 6 ≤ x → A x = A0 x) → ∃ A', (∀ w, w < 6 → A' (96 * f + 6 * i + w) = now (96 * f + 6 * i + w)) ∧ (∀ x, x < 96 * f + 6 * i ∨ 96 * f + 6 * i + 6 ≤ x → A' x = A0 x) ∧ f_X8_renew_21 N x1 x2 te now tab ct' an' nu' (m + 1 + j) (nI (96 * f + 6 * i)) (nI (17 * f + i)) (nI x) A = if ct' (17 * f + i) = 0 then some (upd A' (96 * f + 6 * i) 12) else f_X8_renew_82 N x1 x2 te now tab ct' an' nu' N (nI (96 * f + 6 * i)) (nI (17 * f + i)) (now (96 * f + 6 * i)) (nI 2) A' := by
  intro j
  induction j with
  | zero =>
    intro x m A hx h1 h2
    obtain rfl : x = 6 := by omega
    exact ⟨A, h1, h2, by rw [show m + 1 + 0 = m + 1 from rfl, f_X8_renew_21, if_pos (show (6 : Int32) ≤ nI 6 by decide), q_bind (q_rd (n := 1152) (f := now) (by omega) (by omega)), q_bind (q_rd (n := 204) (f := ct') (by omega) (by omega)), q_bind (q_wr (n := 1152) (f := A) (by omega) (by omega))]; rfl⟩
  | succ j ih =>
    intro x m A hx h1 h2
    obtain ⟨A', a1, a2, a3⟩ := ih (x + 1) m (upd A (96 * f + 6 * i + x) (now (96 * f + 6 * i + x))) (by omega) (fun w hw => by
      by_cases e : w = x
      · subst e; exact q_upd_s
      · rw [q_upd_n (by omega)]; exact h1 w (by omega)) (fun y hy => by rw [q_upd_n (by omega)]; exact h2 y hy)
    refine ⟨A', a1, a2, ?_⟩
    rw [show m + 1 + (j + 1) = m + 1 + j + 1 from rfl, f_X8_renew_21, if_neg (show ¬ (6 : Int32) ≤ nI x from nI_ge (b := 6) (by omega) (by omega)), nI_add, q_bind (q_rd (n := 1152) (f := now) (by omega) (by omega)), q_bind (q_wr (n := 1152) (f := A) (by omega) (by omega)), nI_1]
    exact a3
