/-! PURE 9: the arrays of both sides as states; operands, rows, one arrival -/
def kV (an nu : Nat → Int32) (q r : Nat) : Option Int32 := if an (6 * q + r) = 0 then some (nu (6 * q + r)) else none
def kC (ct an nu : Nat → Int32) : KS := (fun q => !decide (ct q = 0), kV an nu)
def rV (ra rn : Nat → Int32) (r : Nat) : Option Int32 := if ra r = 0 then some (rn r) else none
theorem kC_t {ct an nu : Nat → Int32} {q : Nat} : (kC ct an nu).1 q = true ↔ ct q ≠ 0 := by
  show (!decide (ct q = 0)) = true ↔ _
  by_cases h : ct q = 0
  · rw [decide_eq_true h]; exact ⟨fun x => (by cases x), fun x => absurd h x⟩
  · rw [decide_eq_false h]; exact ⟨fun _ => h, fun _ => rfl⟩
theorem kC_f {ct an nu : Nat → Int32} {q : Nat} : (kC ct an nu).1 q = false ↔ ct q = 0 := by
  show (!decide (ct q = 0)) = false ↔ _
  by_cases h : ct q = 0
  · rw [decide_eq_true h]; exact ⟨fun _ => h, fun _ => rfl⟩
  · rw [decide_eq_false h]; exact ⟨fun x => (by cases x), fun x => absurd x h⟩
theorem isOpd_r {r : Nat} (h : r < 6) : isOpd (nI r) := ⟨r, by omega, by omega, q_and7 (by omega)⟩
theorem opv_r {v : Nat → Option Int32} {r : Nat} (h : r < 6) : opv v (nI r) = v r := by
  unfold opv
  rw [q_and7 (by omega), if_neg (show ¬ nI r = 7 from fun q => by have := (nI_eq (b := 7) (by omega) (by omega)).mp q; omega), nI_clamp (by omega)]
theorem q_has {q : Nat} (hq : q < 204) {o : Int32} (ho : isOpd o) (an nu : Nat → Int32) :
    (opv (kV an nu q) o = none ∧ f_X1_hasNumber (nI q) o an = some 0 ∧ f_X8_has (nI q) o an = some 0) ∨
    ∃ y, opv (kV an nu q) o = some y ∧ f_X1_hasNumber (nI q) o an = some 1 ∧ f_X1_numberOf (nI q) o nu = some y ∧ f_X8_has (nI q) o an = some 1 ∧ f_X8_valueAt (nI q) o nu = some y := by
  obtain ⟨k, h8, h6, e⟩ := ho
  unfold opv f_X1_hasNumber f_X1_numberOf f_X8_has f_X8_valueAt f_X8_isNumber
  rw [e]
  by_cases h7 : k = 7
  · subst h7
    right
    refine ⟨o >>> (3 &&& 31), rfl, ?_, ?_, ?_, ?_⟩
    · rw [if_pos (by decide)]
    · rw [if_pos (by decide)]
    · rw [if_pos (by decide)]; rfl
    · rw [if_pos (by decide)]; rfl
  · have hk : ¬ nI k = 7 := fun q => h7 ((nI_eq (b := 7) (by omega) (by omega)).mp q)
    have h6' : ¬ 6 ≤ nI k := nI_ge (b := 6) (by omega) (by omega)
    have e8 : ∀ {β : Type} (K : Int32 → Option β), ((if nI k = 7 then some (1 : Int32) else some 0).bind K) = K 0 := fun K => by rw [if_neg hk]; rfl
    have hr : ∀ f : Nat → Int32, g_rd 1224 f (nI (6 * q + k)) = some (f (6 * q + k)) := fun f => q_rd (by omega) (by omega)
    rw [if_neg hk, nI_clamp (by omega), if_neg h6', if_neg h6', e8, e8, q_reg, q_m6, nI_add, q_bind (hr an), q_bind (hr nu), if_pos rfl, if_pos rfl]
    unfold kV
    by_cases ha : an (6 * q + k) = 0
    · right
      exact ⟨nu (6 * q + k), by rw [if_pos ha], by rw [if_pos ha], rfl, by rw [if_pos ha], rfl⟩
    · left
      exact ⟨by rw [if_neg ha], by rw [if_neg ha], by rw [if_neg ha]⟩
theorem q_putN {r : Nat} (h : r < 6) (x : Int32) (ra rn : Nat → Int32) : f_X5_putNumber (nI r) x ra rn = some (upd ra r 0, upd rn r x) := by
  unfold f_X5_putNumber; rw [q_bind (q_wz h (by omega) (Or.inl rfl)), q_bind (q_wr h (by omega))]
theorem q_putA {r : Nat} (h : r < 6) (ra rn : Nat → Int32) : f_X5_putAny (nI r) ra rn = some (upd ra r 1, upd rn r 0) := by
  unfold f_X5_putAny; rw [q_bind (q_wz h (by omega) (Or.inr rfl)), q_bind (q_wr h (by omega))]
theorem rV_N {r j : Nat} {x : Int32} {ra rn : Nat → Int32} : rV (upd ra r 0) (upd rn r x) j = if j = r then some x else rV ra rn j := by
  unfold rV
  by_cases h : j = r
  · subst h; rw [q_upd_s, q_upd_s, if_pos rfl, if_pos rfl]
  · rw [q_upd_n h, q_upd_n h, if_neg h]
theorem rV_A {r j : Nat} {x : Int32} {ra rn : Nat → Int32} : rV (upd ra r 1) (upd rn r x) j = if j = r then none else rV ra rn j := by
  unfold rV
  by_cases h : j = r
  · subst h; rw [q_upd_s, if_neg (by decide), if_pos rfl]
  · rw [q_upd_n h, q_upd_n h, if_neg h]
theorem B01_u {n k : Nat} {f : Nat → Int32} {x : Int32} (h : B01 n f) (hx : x = 0 ∨ x = 1) : B01 n (upd f k x) := fun j hj => by
  by_cases e : j = k
  · subst e; rw [q_upd_s]; exact hx
  · rw [q_upd_n e]; exact h j hj
theorem q_takeO {r q : Nat} (hr : r < 6) (hq : q < 204) {o : Int32} (ho : isOpd o) (an nu : Nat → Int32) {ra : Nat → Int32} (rn : Nat → Int32) (hB : B01 6 ra) : ∃ ra' rn', f_X0_takeOperand (nI r) (nI q) o an nu ra rn = some (ra', rn') ∧ B01 6 ra' ∧ ∀ j, rV ra' rn' j = if j = r then opv (kV an nu q) o else rV ra rn j := by
  unfold f_X0_takeOperand
  rcases q_has hq ho an nu with ⟨a, b, _⟩ | ⟨y, a, b, c, _⟩
  · rw [q_bind b, if_pos rfl, q_bind (q_putA hr ra rn)]
    exact ⟨_, _, rfl, B01_u hB (Or.inr rfl), fun j => by rw [rV_A, a]⟩
  · rw [q_bind b, if_neg (by decide), q_bind c, q_bind (q_putN hr y ra rn)]
    exact ⟨_, _, rfl, B01_u hB (Or.inl rfl), fun j => by rw [rV_N, a]⟩
theorem q_takeR2 {q : Nat} (hq : q < 204) (N : Nat) (an nu : Nat → Int32) : ∀ (j r m : Nat) (ra rn : Nat → Int32), r + j = 6 → B01 6 ra → (∀ i, i < r → rV ra rn i = kV an nu q i) → ∃ ra' rn', f_X0_takeRegisters_2 N (nI q) an nu (m + 1 + j) (nI r) ra rn = some (ra', rn') ∧ B01 6 ra' ∧ ∀ i, i < 6 → rV ra' rn' i = kV an nu q i := by
  intro j
  induction j with
  | zero =>
    intro r m ra rn hr hB h
    obtain rfl : r = 6 := by omega
    exact ⟨ra, rn, by rw [show m + 1 + 0 = m + 1 from rfl, f_X0_takeRegisters_2, if_pos (by decide)], hB, h⟩
  | succ j ih =>
    intro r m ra rn hr hB h
    obtain ⟨ra1, rn1, a, b, c⟩ := q_takeO (r := r) (q := q) (by omega) hq (isOpd_r (r := r) (by omega)) an nu rn hB
    obtain ⟨ra', rn', d, e, f⟩ := ih (r + 1) m ra1 rn1 (by omega) b (fun i hi => by
      rw [c]
      by_cases e : i = r
      · subst e; rw [if_pos rfl, opv_r (by omega)]
      · rw [if_neg e]; exact h i (by omega))
    refine ⟨ra', rn', ?_, e, f⟩
    rw [show m + 1 + (j + 1) = m + 1 + j + 1 from rfl, f_X0_takeRegisters_2, if_neg (show ¬ 6 ≤ nI r from nI_ge (b := 6) (by omega) (by omega)), q_bind a, nI_1, d]
theorem q_takeR {q N : Nat} (hq : q < 204) (hN : 20000 ≤ N) (an nu : Nat → Int32) {ra : Nat → Int32} (rn : Nat → Int32) (hB : B01 6 ra) : ∃ ra' rn', f_X0_takeRegisters N (nI q) an nu ra rn = some (ra', rn') ∧ B01 6 ra' ∧ ∀ i, i < 6 → rV ra' rn' i = kV an nu q i := by
  have := q_takeR2 hq N an nu 6 0 (N - 7) ra rn rfl hB (fun i hi => absurd hi (Nat.not_lt_zero i))
  rw [show N - 7 + 1 + 6 = N by omega] at this
  exact this
/-- the class's join, where the place is new -/
theorem q_join1 {q : Nat} (hq : q < 204) (N : Nat) (ct ra rn : Nat → Int32) (hB : B01 6 ra) : ∀ (j r m : Nat) (an nu : Nat → Int32), r + j = 6 → ∃ an' nu', f_X1_join_28 N (nI q) ra rn (m + 1 + j) 1 1 (nI r) ct an nu = some (1, ct, an', nu') ∧ (∀ k, k < 6 * q + r ∨ 6 * q + 6 ≤ k → an' k = an k ∧ nu' k = nu k) ∧ ∀ i, r ≤ i → i < 6 → an' (6 * q + i) = ra i ∧ nu' (6 * q + i) = rn i := by
  intro j
  induction j with
  | zero =>
    intro r m an nu hr
    obtain rfl : r = 6 := by omega
    exact ⟨an, nu, by rw [show m + 1 + 0 = m + 1 from rfl, f_X1_join_28, if_pos (by decide), q_bind (q_zr (Or.inr rfl))], fun k _ => ⟨rfl, rfl⟩, fun i h1 h2 => by omega⟩
  | succ j ih =>
    intro r m an nu hr
    obtain ⟨an', nu', a, b, c⟩ := ih (r + 1) m (upd an (6 * q + r) (ra r)) (upd nu (6 * q + r) (rn r)) (by omega)
    refine ⟨an', nu', ?_, fun k hk => ?_, fun i h1 h2 => ?_⟩
    · rw [show m + 1 + (j + 1) = m + 1 + j + 1 from rfl, f_X1_join_28, if_neg (show ¬ 6 ≤ nI r from nI_ge (b := 6) (by omega) (by omega)), if_neg (by decide), q_bind (q_rd (by omega) (by omega)), q_reg, q_bind (q_wz (by omega) (by omega) (hB r (by omega))), q_bind (q_rd (by omega) (by omega)), q_bind (q_wr (by omega) (by omega)), nI_1, a]
    · obtain ⟨d, e⟩ := b k (by omega)
      rw [q_upd_n (by omega)] at d e
      exact ⟨d, e⟩
    · by_cases e : i = r
      · subst e
        obtain ⟨d, f⟩ := b (6 * q + i) (by omega)
        rw [q_upd_s] at d f
        exact ⟨d, f⟩
      · exact c i (by omega) h2
/-- the class's join, where the place was come to before -/
def jcd (an nu ra rn : Nat → Int32) (q i : Nat) : Prop := an (6 * q + i) = 0 ∧ (ra i ≠ 0 ∨ rn i ≠ nu (6 * q + i))
theorem q_join2 {q : Nat} (hq : q < 204) (N : Nat) (ct nu ra rn : Nat → Int32) : ∀ (j r m : Nat) (x4 : Int32) (an : Nat → Int32), r + j = 6 → (x4 = 0 ∨ x4 = 1) → ∃ x4' an', f_X1_join_28 N (nI q) ra rn (m + 1 + j) 0 x4 (nI r) ct an nu = some (x4', ct, an', nu) ∧ (∀ k, k < 6 * q + r ∨ 6 * q + 6 ≤ k → an' k = an k) ∧ (∀ i, r ≤ i → i < 6 → (jcd an nu ra rn q i → an' (6 * q + i) = 1) ∧ (¬ jcd an nu ra rn q i → an' (6 * q + i) = an (6 * q + i))) ∧ ((x4' = 0 ∧ x4 = 0 ∧ ∀ i, r ≤ i → i < 6 → ¬ jcd an nu ra rn q i) ∨ (x4' = 1 ∧ (x4 = 1 ∨ ∃ i, r ≤ i ∧ i < 6 ∧ jcd an nu ra rn q i))) := by
  intro j
  induction j with
  | zero =>
    intro r m x4 an hr hx
    obtain rfl : r = 6 := by omega
    refine ⟨x4, an, by rw [show m + 1 + 0 = m + 1 from rfl, f_X1_join_28, if_pos (by decide), q_bind (q_zr hx)], fun k _ => rfl, fun i h1 h2 => by omega, ?_⟩
    rcases hx with rfl | rfl
    · exact Or.inl ⟨rfl, rfl, fun i h1 h2 => by omega⟩
    · exact Or.inr ⟨rfl, Or.inl rfl⟩
  | succ j ih =>
    intro r m x4 an hr hx
    have hne : ∀ (x : Int32) (i : Nat), r + 1 ≤ i → upd an (6 * q + r) x (6 * q + i) = an (6 * q + i) := fun x i hi => q_upd_n (by omega)
    have skip : ¬ jcd an nu ra rn q r → f_X1_join_28 N (nI q) ra rn (m + 1 + (j + 1)) 0 x4 (nI r) ct an nu = f_X1_join_28 N (nI q) ra rn (m + 1 + j) 0 x4 (nI (r + 1)) ct an nu := fun hn => by
      rw [show m + 1 + (j + 1) = m + 1 + j + 1 from rfl, f_X1_join_28, if_neg (show ¬ 6 ≤ nI r from nI_ge (b := 6) (by omega) (by omega)), if_pos rfl, q_reg, q_bind (q_rd (by omega) (by omega)), nI_1]
      by_cases h0 : an (6 * q + r) = 0
      · rw [if_pos h0, q_bind (q_rd (by omega) (by omega))]
        have hr0 : ra r = 0 := Classical.byContradiction (fun x => hn ⟨h0, Or.inl x⟩)
        have hr1 : rn r = nu (6 * q + r) := Classical.byContradiction (fun x => hn ⟨h0, Or.inr x⟩)
        rw [if_pos hr0, q_bind (q_rd (by omega) (by omega)), q_bind (q_rd (by omega) (by omega)), if_pos hr1]
      · rw [if_neg h0]
    have hit : jcd an nu ra rn q r → f_X1_join_28 N (nI q) ra rn (m + 1 + (j + 1)) 0 x4 (nI r) ct an nu = f_X1_join_28 N (nI q) ra rn (m + 1 + j) 0 1 (nI (r + 1)) ct (upd an (6 * q + r) 1) nu := fun ⟨h0, hn⟩ => by
      rw [show m + 1 + (j + 1) = m + 1 + j + 1 from rfl, f_X1_join_28, if_neg (show ¬ 6 ≤ nI r from nI_ge (b := 6) (by omega) (by omega)), if_pos rfl, q_reg, q_bind (q_rd (by omega) (by omega)), nI_1, if_pos h0, q_bind (q_rd (by omega) (by omega))]
      by_cases hr0 : ra r = 0
      · rw [if_pos hr0, q_bind (q_rd (by omega) (by omega)), q_bind (q_rd (by omega) (by omega)), if_neg (hn.resolve_left (fun x => x hr0)), q_bind (q_wz (by omega) (by omega) (Or.inr rfl))]
      · rw [if_neg hr0, q_bind (q_wz (by omega) (by omega) (Or.inr rfl))]
    by_cases hc : jcd an nu ra rn q r
    · obtain ⟨x4', an', a, b, c, d⟩ := ih (r + 1) m 1 (upd an (6 * q + r) 1) (by omega) (Or.inr rfl)
      refine ⟨x4', an', by rw [hit hc, a], fun k hk => by rw [b k (by omega), q_upd_n (by omega)], fun i h1 h2 => ?_, ?_⟩
      · by_cases e : i = r
        · subst e
          exact ⟨fun _ => by rw [b _ (by omega), q_upd_s], fun x => absurd hc x⟩
        · have := c i (by omega) h2
          unfold jcd at this
          rw [hne 1 i (by omega)] at this
          exact this
      · rcases d with ⟨_, d, _⟩ | ⟨d, _⟩
        · exact absurd d (by decide)
        · exact Or.inr ⟨d, Or.inr ⟨r, by omega, by omega, hc⟩⟩
    · obtain ⟨x4', an', a, b, c, d⟩ := ih (r + 1) m x4 an (by omega) hx
      refine ⟨x4', an', by rw [skip hc, a], fun k hk => b k (by omega), fun i h1 h2 => ?_, ?_⟩
      · by_cases e : i = r
        · subst e
          exact ⟨fun x => absurd x hc, fun _ => b _ (by omega)⟩
        · exact c i (by omega) h2
      · rcases d with ⟨d1, d2, d3⟩ | ⟨d1, d2⟩
        · refine Or.inl ⟨d1, d2, fun i h1 h2 => ?_⟩
          by_cases e : i = r
          · subst e; exact hc
          · exact d3 i (by omega) h2
        · exact Or.inr ⟨d1, d2.imp id (fun ⟨i, e1, e2, e3⟩ => ⟨i, by omega, e2, e3⟩)⟩
theorem q_join {q N : Nat} (hq : q < 204) (hN : 20000 ≤ N) {ct an nu ra rn : Nat → Int32} (hct : B01 204 ct) (han : B01 1224 an) (hra : B01 6 ra) : ∃ (c : Int32) (ct' an' nu' : Nat → Int32), f_X1_join N (nI q) ct an nu ra rn = some (c, ct', an', nu') ∧ B01 204 ct' ∧ B01 1224 an' ∧ jn (kC ct an nu) q (rV ra rn) (kC ct' an' nu') ∧ ((c = 0 ∧ ¬ jch (kC ct an nu) q (rV ra rn)) ∨ (c = 1 ∧ jch (kC ct an nu) q (rV ra rn))) := by
  unfold f_X1_join
  rw [q_bind (q_rd (by omega) (by omega))]
  have hct' : B01 204 (upd ct q 1) := B01_u hct (Or.inr rfl)
  have h1 : ∀ an' nu', (kC (upd ct q 1) an' nu').1 q = true := fun an' nu' => kC_t.mpr (by rw [q_upd_s]; decide)
  have h2 : ∀ an' nu' k, k ≠ q → (kC (upd ct q 1) an' nu').1 k = (kC ct an nu).1 k := fun an' nu' k hk => by
    show (!decide (upd ct q 1 k = 0)) = (!decide (ct k = 0))
    rw [q_upd_n hk]
  by_cases h0 : ct q = 0
  · rw [if_pos h0, q_bind (q_wz (by omega) (by omega) (Or.inr rfl))]
    obtain ⟨an', nu', a, b, c⟩ := q_join1 hq N (upd ct q 1) ra rn hra 6 0 (N - 7) an nu rfl
    rw [show N - 7 + 1 + 6 = N by omega] at a
    refine ⟨1, _, an', nu', a, hct', fun k hk => ?_, ⟨h1 _ _, fun k hk => ⟨h2 _ _ k hk, fun r hr => ?_⟩, fun r hr => ⟨fun _ => ?_, fun x => absurd h0 (kC_t.mp x)⟩⟩, Or.inr ⟨rfl, Or.inl (kC_f.mpr h0)⟩⟩
    · by_cases hk' : k < 6 * q ∨ 6 * q + 6 ≤ k
      · rw [(b k (by omega)).1]; exact han k hk
      · have := (c (k - 6 * q) (by omega) (by omega)).1
        rw [show 6 * q + (k - 6 * q) = k by omega] at this
        rw [this]; exact hra _ (by omega)
    · show kV an' nu' k r = kV an nu k r
      unfold kV
      obtain ⟨b1, b2⟩ := b (6 * k + r) (by omega)
      rw [b1, b2]
    · show kV an' nu' q r = rV ra rn r
      unfold kV rV
      obtain ⟨c1, c2⟩ := c r (by omega) hr
      rw [c1, c2]
  · rw [if_neg h0, q_bind (q_wz (by omega) (by omega) (Or.inr rfl))]
    obtain ⟨x4, an', a, b, c, d⟩ := q_join2 hq N (upd ct q 1) nu ra rn 6 0 (N - 7) 0 an rfl (Or.inl rfl)
    rw [show N - 7 + 1 + 6 = N by omega] at a
    have hkv : ∀ r, r < 6 → (jcd an nu ra rn q r ↔ kV an nu q r ≠ none ∧ kV an nu q r ≠ rV ra rn r) := fun r hr => by
      unfold jcd kV rV
      by_cases e1 : an (6 * q + r) = 0
      · rw [if_pos e1]
        by_cases e2 : ra r = 0
        · rw [if_pos e2]
          exact ⟨fun x => ⟨fun y => (by cases y), fun y => (x.2.resolve_left (fun z => z e2)) (Option.some.inj y).symm⟩, fun x => ⟨e1, Or.inr (fun y => x.2 (by rw [y]))⟩⟩
        · rw [if_neg e2]
          exact ⟨fun x => ⟨fun y => (by cases y), fun y => (by cases y)⟩, fun x => ⟨e1, Or.inl e2⟩⟩
      · rw [if_neg e1]
        exact ⟨fun x => absurd x.1 e1, fun x => absurd rfl x.1⟩
    refine ⟨x4, _, an', nu, a, hct', fun k hk => ?_, ⟨h1 _ _, fun k hk => ⟨h2 _ _ k hk, fun r hr => ?_⟩, fun r hr => ⟨fun x => absurd (kC_f.mp x) h0, fun _ => ?_⟩⟩, ?_⟩
    · by_cases hk' : k < 6 * q ∨ 6 * q + 6 ≤ k
      · rw [b k (by omega)]; exact han k hk
      · obtain ⟨c1, c2⟩ := c (k - 6 * q) (by omega) (by omega)
        rw [show 6 * q + (k - 6 * q) = k by omega] at c1 c2
        by_cases e : jcd an nu ra rn q (k - 6 * q)
        · exact Or.inr (c1 e)
        · rw [c2 e]; exact han k hk
    · show kV an' nu k r = kV an nu k r
      unfold kV
      rw [b (6 * k + r) (by omega)]
    · show kV an' nu q r = if kV an nu q r = rV ra rn r then kV an nu q r else none
      obtain ⟨c1, c2⟩ := c r (by omega) hr
      by_cases e : jcd an nu ra rn q r
      · rw [if_neg ((hkv r hr).mp e).2]
        unfold kV
        rw [c1 e, if_neg (by decide)]
      · have : kV an' nu q r = kV an nu q r := by unfold kV; rw [c2 e]
        rw [this]
        by_cases e3 : kV an nu q r = rV ra rn r
        · rw [if_pos e3]
        · rw [if_neg e3]
          exact Classical.byContradiction (fun x => e ((hkv r hr).mpr ⟨x, e3⟩))
    · rcases d with ⟨d1, _, d3⟩ | ⟨d1, d2⟩
      · refine Or.inl ⟨d1, fun x => ?_⟩
        rcases x with x | ⟨r, hr, x1, x2⟩
        · exact h0 (kC_f.mp x)
        · exact d3 r (by omega) hr ((hkv r hr).mpr ⟨x1, x2⟩)
      · rcases d2 with d2 | ⟨r, _, hr, d2⟩
        · exact absurd d2 (by decide)
        · exact Or.inr ⟨d1, Or.inr ⟨r, hr, ((hkv r hr).mp d2).1, ((hkv r hr).mp d2).2⟩⟩
