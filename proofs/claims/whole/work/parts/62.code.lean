/-! PURE 3: code -/
theorem q_isOp (o : Int32) : (f_X7_isOperand o = some 0 ∧ f_X8_isOperand o = some 0) ∨ (isOpd o ∧ f_X7_isOperand o = some 1 ∧ f_X8_isOperand o = some 1) := by
  obtain ⟨k, hk, e⟩ := pk_andE o (m := 7) 3 (by decide)
  unfold f_X7_isOperand f_X8_isOperand f_X7_isNumber
  by_cases h6 : k = 6
  · subst h6
    left
    rw [e]
    exact ⟨by decide, by decide⟩
  · right
    have hne : ¬ nI k = 6 := fun q => h6 ((nI_eq (b := 6) (by omega) (by omega)).mp q)
    refine ⟨⟨k, hk, h6, e⟩, ?_, by rw [e, if_neg hne]⟩
    rw [e]
    by_cases h7 : k = 7
    · subst h7; decide
    · rw [if_pos (show nI k < 6 from nI_lt (b := 6) (by omega) (by omega))]
theorem WS.congr {n : Nat} {F F' : Nat → Int32} {k : Nat} (h : WS n F k) (he : ∀ w, w < 6 → F' (k + w) = F (k + w)) : WS n F' k := by
  obtain ⟨op, d, h1, h2, h3, h4, h5, h6, h7, h8⟩ := h
  have e0 := he 0 (by omega)
  have e1 := he 1 (by omega)
  have e2 := he 2 (by omega)
  have hu : usesN op ≤ 3 := by
    have : ∀ op, op ≤ 12 → usesN op ≤ 3 := by decide
    exact this op h1
  refine ⟨op, d, h1, h2, by rw [show F' k = F k from e0]; exact h3, by rw [e1]; exact h4, fun j hj => ?_, fun q => by rw [e2]; exact h6 q, fun q => by rw [e2]; exact h7 q, fun q => by rw [e2]; exact h8 q⟩
  rw [show k + 3 + j = k + (3 + j) by omega, he (3 + j) (by omega), show k + (3 + j) = k + 3 + j by omega]
  exact h5 j hj
theorem q_ops {u : Nat} (hu : u ≤ 3) (op d x a b c own : Int32) : (f_X7_areOperands (nI u) a b c = some 0 ∧ (if nI u ≤ 0 then f_X8_isGood_37 op d x a b c own (nI u) else (f_X8_isOperand a).bind (fun o27 => if o27 = 0 then some 0 else f_X8_isGood_37 op d x a b c own (nI u))) = some 0) ∨
    ((∀ j, j < u → isOpd ([a, b, c].getD j 0)) ∧ f_X7_areOperands (nI u) a b c = some 1 ∧ (if nI u ≤ 0 then f_X8_isGood_37 op d x a b c own (nI u) else (f_X8_isOperand a).bind (fun o27 => if o27 = 0 then some 0 else f_X8_isGood_37 op d x a b c own (nI u))) = f_X8_isGood_67 op d x a b c own) := by
  unfold f_X7_areOperands f_X7_areOperands_12 f_X8_isGood_37
  rcases (show u = 0 ∨ u = 1 ∨ u = 2 ∨ u = 3 by omega) with rfl | rfl | rfl | rfl
  · right
    refine ⟨fun j hj => absurd hj (Nat.not_lt_zero j), ?_, ?_⟩
    · rw [if_pos (show nI 0 < 1 by decide), if_pos (show nI 0 < 2 by decide), if_pos (show nI 0 < 3 by decide)]
    · rw [if_pos (show nI 0 ≤ 0 by decide), if_pos (show nI 0 ≤ 1 by decide), if_pos (show nI 0 ≤ 2 by decide)]
  · simp only [if_neg (show ¬ nI 1 < 1 by decide), if_pos (show nI 1 < 2 by decide), if_pos (show nI 1 < 3 by decide), if_neg (show ¬ nI 1 ≤ 0 by decide), if_pos (show nI 1 ≤ 1 by decide), if_pos (show nI 1 ≤ 2 by decide)]
    rcases q_isOp a with ⟨a1, a2⟩ | ⟨a0, a1, a2⟩
    · left; rw [q_bind a1, q_bind a2]; exact ⟨rfl, rfl⟩
    · right; rw [q_bind a1, q_bind a2]
      exact ⟨fun j hj => by obtain rfl : j = 0 := by omega
                            exact a0, rfl, rfl⟩
  · simp only [if_neg (show ¬ nI 2 < 1 by decide), if_neg (show ¬ nI 2 < 2 by decide), if_pos (show nI 2 < 3 by decide), if_neg (show ¬ nI 2 ≤ 0 by decide), if_neg (show ¬ nI 2 ≤ 1 by decide), if_pos (show nI 2 ≤ 2 by decide)]
    rcases q_isOp a with ⟨a1, a2⟩ | ⟨a0, a1, a2⟩
    · left; rw [q_bind a1, q_bind a2]; exact ⟨rfl, rfl⟩
    · rw [q_bind a1, q_bind a2, if_neg (show ¬ (1 : Int32) = 0 by decide)]
      rcases q_isOp b with ⟨b1, b2⟩ | ⟨b0, b1, b2⟩
      · left; rw [q_bind b1, q_bind b2]; exact ⟨rfl, rfl⟩
      · right; rw [q_bind b1, q_bind b2]
        refine ⟨fun j hj => ?_, rfl, rfl⟩
        rcases (show j = 0 ∨ j = 1 by omega) with rfl | rfl
        · exact a0
        · exact b0
  · simp only [if_neg (show ¬ nI 3 < 1 by decide), if_neg (show ¬ nI 3 < 2 by decide), if_neg (show ¬ nI 3 < 3 by decide), if_neg (show ¬ nI 3 ≤ 0 by decide), if_neg (show ¬ nI 3 ≤ 1 by decide), if_neg (show ¬ nI 3 ≤ 2 by decide)]
    rcases q_isOp a with ⟨a1, a2⟩ | ⟨a0, a1, a2⟩
    · left; rw [q_bind a1, q_bind a2]; exact ⟨rfl, rfl⟩
    · rw [q_bind a1, q_bind a2, if_neg (show ¬ (1 : Int32) = 0 by decide)]
      rcases q_isOp b with ⟨b1, b2⟩ | ⟨b0, b1, b2⟩
      · left; rw [q_bind b1, q_bind b2]; exact ⟨rfl, rfl⟩
      · rw [q_bind b1, q_bind b2, if_neg (show ¬ (1 : Int32) = 0 by decide)]
        rcases q_isOp c with ⟨c1, c2⟩ | ⟨c0, c1, c2⟩
        · left; rw [q_bind c1, q_bind c2]; exact ⟨rfl, rfl⟩
        · right; rw [q_bind c1, q_bind c2]
          refine ⟨fun j hj => ?_, rfl, rfl⟩
          rcases (show j = 0 ∨ j = 1 ∨ j = 2 by omega) with rfl | rfl | rfl
          · exact a0
          · exact b0
          · exact c0
theorem q_rng (x : Int32) : (((if x < 0 then some 0 else if 16 < x then some 0 else some 1) : Option Int32) = some 0) ∨ ∃ k : Nat, k ≤ 16 ∧ x = nI k ∧ ((if x < 0 then some 0 else if 16 < x then some 0 else some 1) : Option Int32) = some 1 := by
  rcases pk_ix x (n := 17) (by omega) with h | h | ⟨k, hk, rfl⟩
  · left; rw [if_pos h]
  · left; rw [if_neg (q_nlt0 (by omega) h), if_pos (Int32.lt_of_lt_of_le (show (16 : Int32) < nI 17 by decide) h)]
  · right; exact ⟨k, by omega, rfl, by rw [if_neg (nI_pos (by omega)), if_neg (show ¬ 16 < nI k from nI_nlt (a := 16) (by omega) (by omega))]⟩
theorem q_fit {k n : Nat} (hk : k ≤ 12) (hn : n ≤ 6) (d x a b c : Int32) : (f_X7_isFitX (nI k) x (nI n) = some 0 ∧ f_X8_isGood_67 (nI k) d x a b c (nI n) = some 0) ∨
    ((k = 7 ∨ k = 8 → ∃ y : Nat, y ≤ 16 ∧ x = nI y) ∧ (k = 10 → ∃ g : Nat, g < n ∧ x = nI g) ∧ (k = 11 → isOpd x) ∧ f_X7_isFitX (nI k) x (nI n) = some 1 ∧ f_X8_isGood_67 (nI k) d x a b c (nI n) = some 1) := by
  unfold f_X7_isFitX f_X8_isGood_67
  have ne : ∀ j : Nat, j < 100 → k ≠ j → ¬ nI k = nI j := fun j hj h q => h ((nI_eq (by omega) (by omega)).mp q)
  by_cases h7 : k = 7
  · subst h7
    rw [if_pos (show nI 7 = 7 by decide)]
    rcases q_rng x with h | ⟨y, hy, rfl, h⟩
    · exact Or.inl ⟨h, h⟩
    · exact Or.inr ⟨fun _ => ⟨y, hy, rfl⟩, fun q => absurd q (by decide), fun q => absurd q (by decide), h, h⟩
  · simp only [if_neg (show ¬ nI k = 7 from ne 7 (by omega) h7)]
    by_cases h8 : k = 8
    · subst h8
      rw [if_pos (show nI 8 = 8 by decide)]
      rcases q_rng x with h | ⟨y, hy, rfl, h⟩
      · exact Or.inl ⟨h, h⟩
      · exact Or.inr ⟨fun _ => ⟨y, hy, rfl⟩, fun q => absurd q (by decide), fun q => absurd q (by decide), h, h⟩
    · simp only [if_neg (show ¬ nI k = 8 from ne 8 (by omega) h8)]
      by_cases h10 : k = 10
      · subst h10
        rw [if_pos (show nI 10 = 10 by decide)]
        rcases q_hasF x (n := n) (by omega) with ⟨a1, a2⟩ | ⟨g, hg, rfl, a1, a2⟩
        · left; rw [q_bind a1, q_bind a2]; exact ⟨rfl, rfl⟩
        · right; rw [q_bind a1, q_bind a2]
          exact ⟨fun q => absurd q (by decide), fun _ => ⟨g, hg, rfl⟩, fun q => absurd q (by decide), rfl, rfl⟩
      · simp only [if_neg (show ¬ nI k = 10 from ne 10 (by omega) h10)]
        by_cases h11 : k = 11
        · subst h11
          rw [if_pos (show nI 11 = 11 by decide)]
          rcases q_isOp x with ⟨a1, a2⟩ | ⟨a0, a1, a2⟩
          · left; rw [q_bind a1, q_bind a2]; exact ⟨rfl, rfl⟩
          · right; rw [q_bind a1, q_bind a2]
            exact ⟨fun q => absurd q (by decide), fun q => absurd q (by decide), fun _ => a0, rfl, rfl⟩
        · simp only [if_neg (show ¬ nI k = 11 from ne 11 (by omega) h11)]
          exact Or.inr ⟨fun q => by omega, fun q => absurd q h10, fun q => absurd q h11, by trivial⟩
theorem q_uses : ∀ k, k ≤ 12 → f_X8_uses (nI k) = some (nI (usesN k)) ∧ g_rd 13 g_usedI (nI k) = some (nI (usesN k)) ∧ usesN k ≤ 3 := by decide
/-- six writes, one behind the other -/
def upd6 (F : Nat → Int32) (k : Nat) (s0 s1 s2 s3 s4 s5 : Int32) : Nat → Int32 := upd (upd (upd (upd (upd (upd F k s0) (k + 1) s1) (k + 2) s2) (k + 3) s3) (k + 4) s4) (k + 5) s5
theorem upd6_out {F : Nat → Int32} {k j : Nat} {s0 s1 s2 s3 s4 s5 : Int32} (h : j < k ∨ k + 6 ≤ j) : upd6 F k s0 s1 s2 s3 s4 s5 j = F j := by
  unfold upd6
  rw [q_upd_n (by omega), q_upd_n (by omega), q_upd_n (by omega), q_upd_n (by omega), q_upd_n (by omega), q_upd_n (by omega)]
theorem upd6_in {F : Nat → Int32} {k w : Nat} {s0 s1 s2 s3 s4 s5 : Int32} (h : w < 6) : upd6 F k s0 s1 s2 s3 s4 s5 (k + w) = [s0, s1, s2, s3, s4, s5].getD w 0 := by
  unfold upd6
  rcases (show w = 0 ∨ w = 1 ∨ w = 2 ∨ w = 3 ∨ w = 4 ∨ w = 5 by omega) with rfl | rfl | rfl | rfl | rfl | rfl
  · rw [q_upd_n (by omega), q_upd_n (by omega), q_upd_n (by omega), q_upd_n (by omega), q_upd_n (by omega)]; exact q_upd_s
  · rw [q_upd_n (by omega), q_upd_n (by omega), q_upd_n (by omega), q_upd_n (by omega)]; exact q_upd_s
  · rw [q_upd_n (by omega), q_upd_n (by omega), q_upd_n (by omega)]; exact q_upd_s
  · rw [q_upd_n (by omega), q_upd_n (by omega)]; exact q_upd_s
  · rw [q_upd_n (by omega)]; exact q_upd_s
  · exact q_upd_s
theorem q_WP_code {n e f : Nat} {pn ln : Nat → Nat} {pc ls F en : Nat → Int32} {s0 s1 s2 s3 s4 s5 : Int32} (h : WP n pn ln pc ls F e en) (hf : f < n) (h16 : ln f < 16) (hs : WS n (upd6 F (96 * f + 6 * ln f) s0 s1 s2 s3 s4 s5) (96 * f + 6 * ln f)) : WP n pn (nup ln f (ln f + 1)) pc (upd ls f (nI (ln f + 1))) (upd6 F (96 * f + 6 * ln f) s0 s1 s2 s3 s4 s5) e en := by
  refine ⟨fun g hg => ?_, h.2.1, fun g hg i hi => ?_, h.2.2.2⟩
  · obtain ⟨a, b, c, d⟩ := h.1 g hg
    by_cases hgf : g = f
    · subst hgf; rw [nup_s, q_upd_s]; exact ⟨a, b, rfl, by omega⟩
    · rw [nup_n hgf, q_upd_n hgf]; exact ⟨a, b, c, d⟩
  · have hl := (h.1 g hg).2.2.2
    by_cases hgf : g = f
    · subst hgf
      rw [nup_s] at hi
      by_cases hie : i = ln g
      · subst hie; exact hs
      · exact (h.2.2.1 g hg i (by omega)).congr (fun w hw => upd6_out (by omega))
    · rw [nup_n hgf] at hi
      exact (h.2.2.1 g hg i hi).congr (fun w hw => upd6_out (by omega))
