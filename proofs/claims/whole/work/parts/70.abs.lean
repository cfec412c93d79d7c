/-! PURE 8: what is known, in the abstract: rows of values (none: any), solutions, the least one -/
def vle (a b : Option Int32) : Prop := b = none ∨ a = b
theorem vle_r (a : Option Int32) : vle a a := Or.inr rfl
theorem vle_t {a b c : Option Int32} (h : vle a b) (k : vle b c) : vle a c := by
  rcases k with k | k
  · exact Or.inl k
  · subst k; exact h
theorem vle_a {a b : Option Int32} (h : vle a b) (k : vle b a) : a = b := by
  rcases h with h | h
  · rcases k with k | k
    · rw [h, k]
    · exact k.symm
  · exact h
theorem vle_s {a b : Option Int32} {y : Int32} (h : vle a b) (k : b = some y) : a = some y := by
  rcases h with h | h
  · rw [h] at k; cases k
  · rw [h]; exact k
theorem vle_n {a b : Option Int32} (h : vle a b) (k : a = none) : b = none := by
  rcases h with h | h
  · exact h
  · rw [← h]; exact k
def rle (a b : Nat → Option Int32) : Prop := ∀ r, r < 6 → vle (a r) (b r)
theorem rle_r (a : Nat → Option Int32) : rle a a := fun r _ => vle_r _
theorem rle_t {a b c : Nat → Option Int32} (h : rle a b) (k : rle b c) : rle a c := fun r hr => vle_t (h r hr) (k r hr)
theorem rle_e {a b : Nat → Option Int32} (h : ∀ r, r < 6 → a r = b r) : rle a b := fun r hr => Or.inr (h r hr)
/-- an operand's value -/
def opv (v : Nat → Option Int32) (o : Int32) : Option Int32 := if o &&& 7 = 7 then some (o >>> (3 &&& 31)) else v (o &&& 7).toNatClampNeg
theorem opv_m {v v' : Nat → Option Int32} (h : rle v v') {o : Int32} (ho : isOpd o) : vle (opv v o) (opv v' o) := by
  obtain ⟨k, h8, h6, e⟩ := ho
  unfold opv
  rw [e]
  by_cases h7 : k = 7
  · subst h7; exact vle_r _
  · rw [if_neg (show ¬ nI k = 7 from fun q => h7 ((nI_eq (b := 7) (by omega) (by omega)).mp q)), if_neg (show ¬ nI k = 7 from fun q => h7 ((nI_eq (b := 7) (by omega) (by omega)).mp q)), nI_clamp (by omega)]
    exact h k (by omega)
/-- what an operation gives, where it is a number -/
def rsl (op : Nat) (oa ob : Option Int32) : Option Int32 := oa.bind (fun a => ob.bind (fun b => (f_X8_reckon (nI op) a b).bind (fun w => if w < (-268435456) then none else if 268435455 < w then none else some w)))
theorem rsl_m {op : Nat} {a a' b b' : Option Int32} (ha : vle a a') (hb : vle b b') : vle (rsl op a b) (rsl op a' b') := by
  rcases ha with rfl | rfl
  · exact Or.inl rfl
  · rcases hb with rfl | rfl
    · left; unfold rsl; cases a <;> rfl
    · exact vle_r _
/-- a call's first row -/
def ent (pn : Nat → Nat) (F : Nat → Int32) (s g : Nat) (v : Nat → Option Int32) : Nat → Option Int32 := fun r => if r < pn g then opv v (F (s + 3 + r)) else some 0
/-- the row behind a statement -/
def chg (e : Nat) (F : Nat → Int32) (op d s : Nat) (v : Nat → Option Int32) : Nat → Option Int32 := fun r => if r = d then (if op = 0 then rsl 0 (opv v (F (s + 3))) (some 0) else if op ≤ 4 then rsl op (opv v (F (s + 3))) (opv v (F (s + 4))) else if op = 5 ∨ op = 10 then none else if op = 11 then (if e = 0 then some 0 else none) else v r) else v r
/-- entry j is the one that y names -/
def isE (e : Nat) (y : Int32) (j : Nat) : Prop := ∀ en : Nat → Int32, f_X4_entryFor y (nI e) en = some (en j)
def ArrC (n : Nat) (pn : Nat → Nat) (F : Nat → Int32) (e : Nat) (en : Nat → Int32) (op s : Nat) (v : Nat → Option Int32) (t : Nat) (row : Nat → Option Int32) : Prop :=
  (op = 10 ∧ ∃ g, g < n ∧ F (s + 2) = nI g ∧ t = 17 * g ∧ row = ent pn F s g v) ∨ (op = 11 ∧ ∃ j g, j < e ∧ g < n ∧ en j = nI g ∧ (∀ y, opv v (F (s + 2)) = some y → isE e y j) ∧ t = 17 * g ∧ row = ent pn F s g v)
def ArrN (ln : Nat → Nat) (F : Nat → Int32) (e : Nat) (op d f p s : Nat) (v : Nat → Option Int32) (t : Nat) (row : Nat → Option Int32) : Prop :=
  ((op = 8 ∨ (op = 7 ∧ opv v (F (s + 3)) ≠ some 0)) ∧ ∃ x, x ≤ 16 ∧ F (s + 2) = nI x ∧ t = 17 * f + min x (ln f) ∧ row = chg e F op d s v) ∨
  (((op ≠ 7 ∧ op ≠ 8 ∧ op ≠ 9) ∨ (op = 7 ∧ (opv v (F (s + 3)) = none ∨ opv v (F (s + 3)) = some 0))) ∧ t = 17 * f + min (p + 1) (ln f) ∧ row = chg e F op d s v)
def Arr (n : Nat) (ln pn : Nat → Nat) (F : Nat → Int32) (e : Nat) (en : Nat → Int32) (f p : Nat) (v : Nat → Option Int32) (t : Nat) (row : Nat → Option Int32) : Prop :=
  ∃ op d, op ≤ 12 ∧ d < 6 ∧ F (96 * f + 6 * p) = nI op ∧ F (96 * f + 6 * p + 1) = nI d ∧ (ArrC n pn F e en op (96 * f + 6 * p) v t row ∨ ArrN ln F e op d f p (96 * f + 6 * p) v t row)
theorem ent_m {n : Nat} {pn : Nat → Nat} {F : Nat → Int32} {s g op : Nat} {v v' : Nat → Option Int32} (hp : ∀ g, g < n → pn g ≤ 3) (hg : g < n) (hu : ∀ j, j < usesN op → isOpd (F (s + 3 + j))) (ho : op = 10 ∨ op = 11) (h : rle v v') : rle (ent pn F s g v) (ent pn F s g v') := fun r hr => by
  have h3 : usesN op = 3 := by rcases ho with rfl | rfl <;> rfl
  have := hp g hg
  unfold ent
  by_cases hrp : r < pn g
  · rw [if_pos hrp, if_pos hrp]; exact opv_m h (hu r (by omega))
  · rw [if_neg hrp, if_neg hrp]; exact vle_r _
theorem chg_m {e : Nat} {F : Nat → Int32} {s d op : Nat} {v v' : Nat → Option Int32} (hu : ∀ j, j < usesN op → isOpd (F (s + 3 + j))) (h : rle v v') : rle (chg e F op d s v) (chg e F op d s v') := fun r hr => by
  unfold chg
  by_cases hrd : r = d
  · rw [if_pos hrd, if_pos hrd]
    by_cases h0 : op = 0
    · rw [if_pos h0, if_pos h0]; subst h0; exact rsl_m (opv_m h (hu 0 (by decide))) (vle_r _)
    · rw [if_neg h0, if_neg h0]
      by_cases h4 : op ≤ 4
      · have h2 : usesN op = 2 := by
          rcases (show op = 1 ∨ op = 2 ∨ op = 3 ∨ op = 4 by omega) with rfl | rfl | rfl | rfl <;> rfl
        rw [if_pos h4, if_pos h4]; exact rsl_m (opv_m h (hu 0 (by omega))) (opv_m h (hu 1 (by omega)))
      · rw [if_neg h4, if_neg h4]
        by_cases h5 : op = 5 ∨ op = 10
        · rw [if_pos h5, if_pos h5]; exact vle_r _
        · rw [if_neg h5, if_neg h5]
          by_cases h11 : op = 11
          · rw [if_pos h11, if_pos h11]; exact vle_r _
          · rw [if_neg h11, if_neg h11]; exact h r hr
  · rw [if_neg hrd, if_neg hrd]; exact h r hr
theorem Arr_m {n : Nat} {ln pn : Nat → Nat} {F : Nat → Int32} {e : Nat} {en : Nat → Int32} {f p : Nat} (hW : WS n F (96 * f + 6 * p)) (hp : ∀ g, g < n → pn g ≤ 3) {v v' : Nat → Option Int32} (h : rle v v') {t : Nat} {row : Nat → Option Int32} (ha : Arr n ln pn F e en f p v t row) :
    ∃ row', Arr n ln pn F e en f p v' t row' ∧ rle row row' := by
  obtain ⟨op, d, h1, h2, h3, h4, ha⟩ := ha
  obtain ⟨op', d', w1, w2, w3, w4, hu, w6, w7, w8⟩ := hW
  obtain rfl : op = op' := (nI_eq (by omega) (by omega)).mp (h3.symm.trans w3)
  rcases ha with (⟨a1, g, a2, a3, a4, a5⟩ | ⟨a1, j, g, a2, a3, a4, a5, a6, a7⟩) | (⟨a1, x, a2, a3, a4, a5⟩ | ⟨a1, a2, a3⟩)
  · exact ⟨_, ⟨op, d, h1, h2, h3, h4, Or.inl (Or.inl ⟨a1, g, a2, a3, a4, rfl⟩)⟩, by rw [a5]; exact ent_m hp a2 hu (Or.inl a1) h⟩
  · exact ⟨_, ⟨op, d, h1, h2, h3, h4, Or.inl (Or.inr ⟨a1, j, g, a2, a3, a4, fun y hy => a5 y (vle_s (opv_m h (w8 a1)) hy), a6, rfl⟩)⟩, by rw [a7]; exact ent_m hp a3 hu (Or.inr a1) h⟩
  · refine ⟨_, ⟨op, d, h1, h2, h3, h4, Or.inr (Or.inl ⟨?_, x, a2, a3, a4, rfl⟩)⟩, by rw [a5]; exact chg_m hu h⟩
    rcases a1 with a1 | ⟨a1, b1⟩
    · exact Or.inl a1
    · exact Or.inr ⟨a1, fun q => b1 (vle_s (opv_m h (hu 0 (by rw [a1]; decide))) q)⟩
  · refine ⟨_, ⟨op, d, h1, h2, h3, h4, Or.inr (Or.inr ⟨?_, a2, rfl⟩)⟩, by rw [a3]; exact chg_m hu h⟩
    rcases a1 with a1 | ⟨a1, b1⟩
    · exact Or.inl a1
    · refine Or.inr ⟨a1, ?_⟩
      have hv := opv_m h (hu 0 (by rw [a1]; decide))
      rcases b1 with b1 | b1
      · exact Or.inl (vle_n hv b1)
      · rcases hv with q | q
        · exact Or.inl q
        · exact Or.inr (by rw [show 96 * f + 6 * p + 3 + 0 = 96 * f + 6 * p + 3 from rfl] at q; rw [← q]; exact b1)
theorem Arr_t {n : Nat} {ln pn : Nat → Nat} {F : Nat → Int32} {e : Nat} {en : Nat → Int32} {f p : Nat} {v : Nat → Option Int32} {t : Nat} {row : Nat → Option Int32} (hf : f < n) (hl : ln f ≤ 16) (ha : Arr n ln pn F e en f p v t row) : t < 17 * n := by
  obtain ⟨op, d, h1, h2, h3, h4, ha⟩ := ha
  rcases ha with (⟨a1, g, a2, a3, a4, a5⟩ | ⟨a1, j, g, a2, a3, a4, a5, a6, a7⟩) | (⟨a1, x, a2, a3, a4, a5⟩ | ⟨a1, a2, a3⟩) <;> omega
/-- a state of what is known: which places are come to, and the row of each -/
abbrev KS : Type := (Nat → Bool) × (Nat → Nat → Option Int32)
def kle (M : Nat) (K K' : KS) : Prop := ∀ q, q < M → K.1 q = true → K'.1 q = true ∧ rle (K.2 q) (K'.2 q)
theorem kle_r (M : Nat) (K : KS) : kle M K K := fun q _ h => ⟨h, rle_r _⟩
theorem kle_t {M : Nat} {K K' K'' : KS} (h : kle M K K') (k : kle M K' K'') : kle M K K'' := fun q hq hc => ⟨(k q hq (h q hq hc).1).1, rle_t (h q hq hc).2 (k q hq (h q hq hc).1).2⟩
def Sol (n : Nat) (ln pn : Nat → Nat) (F : Nat → Int32) (e : Nat) (en : Nat → Int32) (S : KS) : Prop :=
  S.1 0 = true ∧ rle (fun _ => some 0) (S.2 0) ∧ ∀ f, f < n → ∀ p, p < ln f → S.1 (17 * f + p) = true → ∀ t row, Arr n ln pn F e en f p (S.2 (17 * f + p)) t row → S.1 t = true ∧ rle row (S.2 t)
def Bel (n : Nat) (ln pn : Nat → Nat) (F : Nat → Int32) (e : Nat) (en : Nat → Int32) (K : KS) : Prop := ∀ S, Sol n ln pn F e en S → kle (17 * n) K S
/-- an arrival that every solution has -/
def Jus (n : Nat) (ln pn : Nat → Nat) (F : Nat → Int32) (e : Nat) (en : Nat → Int32) (t : Nat) (row : Nat → Option Int32) : Prop := ∀ S, Sol n ln pn F e en S → S.1 t = true ∧ rle row (S.2 t)
theorem Jus_arr {n : Nat} {ln pn : Nat → Nat} {F : Nat → Int32} {e : Nat} {en : Nat → Int32} {K : KS} (hB : Bel n ln pn F e en K) {f p : Nat} (hf : f < n) (hpl : p < ln f) (hl : ln f ≤ 16) (hW : WS n F (96 * f + 6 * p)) (hp : ∀ g, g < n → pn g ≤ 3) (hc : K.1 (17 * f + p) = true) {t : Nat} {row : Nat → Option Int32} (ha : Arr n ln pn F e en f p (K.2 (17 * f + p)) t row) : Jus n ln pn F e en t row := fun S hS => by
  obtain ⟨c1, c2⟩ := hB S hS (17 * f + p) (by omega) hc
  obtain ⟨row', a1, a2⟩ := Arr_m hW hp c2 ha
  obtain ⟨b1, b2⟩ := hS.2.2 f hf p hpl c1 t row' a1
  exact ⟨b1, rle_t a2 b2⟩
def Sat (n : Nat) (ln pn : Nat → Nat) (F : Nat → Int32) (e : Nat) (en : Nat → Int32) (K : KS) (f p : Nat) : Prop := ∀ t row, Arr n ln pn F e en f p (K.2 (17 * f + p)) t row → K.1 t = true ∧ rle row (K.2 t)
theorem Sat_m {n : Nat} {ln pn : Nat → Nat} {F : Nat → Int32} {e : Nat} {en : Nat → Int32} {K K' : KS} {f p : Nat} (hf : f < n) (hl : ln f ≤ 16) (hW : WS n F (96 * f + 6 * p)) (hp : ∀ g, g < n → pn g ≤ 3) (h : Sat n ln pn F e en K f p) (hk : kle (17 * n) K K') (hr : rle (K'.2 (17 * f + p)) (K.2 (17 * f + p))) : Sat n ln pn F e en K' f p := fun t row ha => by
  obtain ⟨row', a1, a2⟩ := Arr_m hW hp hr ha
  obtain ⟨b1, b2⟩ := h t row' a1
  obtain ⟨c1, c2⟩ := hk t (Arr_t hf hl a1) b1
  exact ⟨c1, rle_t a2 (rle_t b2 c2)⟩
/-- K' is K with a row joined at t -/
def jn (K : KS) (t : Nat) (row : Nat → Option Int32) (K' : KS) : Prop :=
  K'.1 t = true ∧ (∀ q, q ≠ t → K'.1 q = K.1 q ∧ ∀ r, r < 6 → K'.2 q r = K.2 q r) ∧ ∀ r, r < 6 → (K.1 t = false → K'.2 t r = row r) ∧ (K.1 t = true → K'.2 t r = if K.2 t r = row r then K.2 t r else none)
def jch (K : KS) (t : Nat) (row : Nat → Option Int32) : Prop := K.1 t = false ∨ ∃ r, r < 6 ∧ K.2 t r ≠ none ∧ K.2 t r ≠ row r
theorem jn_le {K K' : KS} {t : Nat} {row : Nat → Option Int32} (h : jn K t row K') (M : Nat) : kle M K K' := fun q _ hc => by
  by_cases hq : q = t
  · subst hq
    refine ⟨h.1, fun r hr => ?_⟩
    have := (h.2.2 r hr).2 hc
    by_cases e : K.2 q r = row r
    · rw [if_pos e] at this; exact Or.inr this.symm
    · rw [if_neg e] at this; exact Or.inl this
  · obtain ⟨a, b⟩ := h.2.1 q hq
    exact ⟨by rw [a]; exact hc, fun r hr => Or.inr (b r hr).symm⟩
theorem jn_row {K K' : KS} {t : Nat} {row : Nat → Option Int32} (h : jn K t row K') : rle row (K'.2 t) := fun r hr => by
  cases hc : K.1 t
  · exact Or.inr ((h.2.2 r hr).1 hc).symm
  · have := (h.2.2 r hr).2 hc
    by_cases e : K.2 t r = row r
    · rw [if_pos e] at this; rw [this]; exact Or.inr e.symm
    · rw [if_neg e] at this; exact Or.inl this
theorem jn_bel {K K' S : KS} {t M : Nat} {row : Nat → Option Int32} (h : jn K t row K') (hk : kle M K S) (hs : S.1 t = true) (hr : rle row (S.2 t)) : kle M K' S := fun q hqM hc => by
  by_cases hq : q = t
  · subst hq
    refine ⟨hs, fun r hr6 => ?_⟩
    cases hcK : K.1 q
    · rw [(h.2.2 r hr6).1 hcK]; exact hr r hr6
    · have hv := (hk q hqM hcK).2 r hr6
      rw [(h.2.2 r hr6).2 hcK]
      by_cases e : K.2 q r = row r
      · rw [if_pos e]; exact hv
      · rw [if_neg e]
        rcases hv with a | a
        · exact Or.inl a
        · rcases hr r hr6 with b | b
          · exact Or.inl b
          · exact absurd (a.trans b.symm) e
  · obtain ⟨a, b⟩ := h.2.1 q hq
    rw [a] at hc
    obtain ⟨c, d⟩ := hk q hqM hc
    exact ⟨c, fun r hr6 => by rw [b r hr6]; exact d r hr6⟩
theorem jn_same {K K' : KS} {t : Nat} {row : Nat → Option Int32} (h : jn K t row K') (hn : ¬ jch K t row) (q : Nat) : K'.1 q = K.1 q ∧ ∀ r, r < 6 → K'.2 q r = K.2 q r := by
  by_cases hq : q = t
  · subst hq
    have hc : K.1 q = true := by
      cases hc : K.1 q
      · exact absurd (Or.inl hc) hn
      · rfl
    refine ⟨by rw [h.1, hc], fun r hr => ?_⟩
    rw [(h.2.2 r hr).2 hc]
    by_cases e : K.2 q r = row r
    · rw [if_pos e]
    · rw [if_neg e]
      cases hv : K.2 q r with
      | none => rfl
      | some y => exact absurd (Or.inr ⟨r, hr, (fun x => nomatch (hv.symm.trans x)), e⟩) hn
  · exact h.2.1 q hq
/-- sums, and how much is known -/
def msum (f : Nat → Nat) : Nat → Nat
  | 0 => 0
  | n + 1 => msum f n + f n
theorem msum_le {f g : Nat → Nat} : ∀ {n : Nat}, (∀ q, q < n → f q ≤ g q) → msum f n ≤ msum g n
  | 0, _ => Nat.le_refl _
  | n + 1, h => by
    have a := msum_le (n := n) (fun q hq => h q (by omega))
    have b := h n (by omega)
    show msum f n + f n ≤ msum g n + g n
    omega
theorem msum_lt {f g : Nat → Nat} {t : Nat} : ∀ {n : Nat}, (∀ q, q < n → f q ≤ g q) → t < n → f t < g t → msum f n + 1 ≤ msum g n
  | 0, _, h, _ => absurd h (Nat.not_lt_zero _)
  | n + 1, h, ht, hlt => by
    show msum f n + f n + 1 ≤ msum g n + g n
    by_cases e : t = n
    · subst e
      have a := msum_le (n := t) (fun q hq => h q (by omega))
      omega
    · have a := msum_lt (n := n) (fun q hq => h q (by omega)) (by omega) hlt
      have b := h n (by omega)
      omega
theorem msum_c {c : Nat} {f : Nat → Nat} : ∀ {n : Nat}, (∀ q, q < n → f q ≤ c) → msum f n ≤ c * n
  | 0, _ => Nat.zero_le _
  | n + 1, h => by
    have a := msum_c (n := n) (fun q hq => h q (by omega))
    have b := h n (by omega)
    show msum f n + f n ≤ c * (n + 1)
    rw [Nat.mul_succ]; omega
theorem msum_e {f g : Nat → Nat} : ∀ {n : Nat}, (∀ q, q < n → f q = g q) → msum f n = msum g n
  | 0, _ => rfl
  | n + 1, h => by
    show msum f n + f n = msum g n + g n
    rw [msum_e (n := n) (fun q hq => h q (by omega)), h n (by omega)]
def kn (v : Nat → Option Int32) : Nat := msum (fun r => if (v r).isNone then 1 else 0) 6
def mu (M : Nat) (K : KS) : Nat := msum (fun q => if K.1 q then 1 + kn (K.2 q) else 0) M
theorem kn_le (v : Nat → Option Int32) : kn v ≤ 6 := by
  have := msum_c (c := 1) (f := fun r => if (v r).isNone then 1 else 0) (n := 6) (fun q _ => by
    show (if (v q).isNone then 1 else 0) ≤ 1
    split <;> omega)
  unfold kn; omega
theorem mu_le (M : Nat) (K : KS) : mu M K ≤ 7 * M := msum_c (fun q _ => by
  show (if K.1 q then 1 + kn (K.2 q) else 0) ≤ 7
  have := kn_le (K.2 q)
  split <;> omega)
theorem kn_m {v v' : Nat → Option Int32} (h : rle v v') : kn v ≤ kn v' := msum_le (fun r hr => by
  show (if (v r).isNone then 1 else 0) ≤ (if (v' r).isNone then 1 else 0)
  rcases h r hr with e | e
  · rw [e]; show _ ≤ 1; split <;> omega
  · rw [e]; exact Nat.le_refl _)
theorem mu_m {M : Nat} {K K' : KS} (h : kle M K K') : mu M K ≤ mu M K' := msum_le (fun q hq => by
  show (if K.1 q then 1 + kn (K.2 q) else 0) ≤ (if K'.1 q then 1 + kn (K'.2 q) else 0)
  cases hc : K.1 q
  · exact Nat.zero_le _
  · obtain ⟨a, b⟩ := h q hq hc
    rw [a]
    have := kn_m b
    show 1 + kn (K.2 q) ≤ 1 + kn (K'.2 q)
    omega)
theorem jn_mu {M : Nat} {K K' : KS} {t : Nat} {row : Nat → Option Int32} (h : jn K t row K') (ht : t < M) (hc : jch K t row) : mu M K + 1 ≤ mu M K' := by
  have hk := jn_le h M
  refine msum_lt (t := t) (fun q hq => ?_) ht ?_
  · show (if K.1 q then 1 + kn (K.2 q) else 0) ≤ (if K'.1 q then 1 + kn (K'.2 q) else 0)
    cases hcq : K.1 q
    · exact Nat.zero_le _
    · obtain ⟨a, b⟩ := hk q hq hcq
      rw [a]
      have := kn_m b
      show 1 + kn (K.2 q) ≤ 1 + kn (K'.2 q)
      omega
  · show (if K.1 t then 1 + kn (K.2 t) else 0) < (if K'.1 t then 1 + kn (K'.2 t) else 0)
    rw [h.1]
    cases hct : K.1 t
    · show 0 < 1 + kn (K'.2 t)
      omega
    · show 1 + kn (K.2 t) < 1 + kn (K'.2 t)
      rcases hc with hc | ⟨r, hr, e1, e2⟩
      · rw [hct] at hc; cases hc
      · have e3 := (h.2.2 r hr).2 hct
        rw [if_neg e2] at e3
        have : kn (K.2 t) + 1 ≤ kn (K'.2 t) := msum_lt (t := r) (fun i hi => by
          show (if (K.2 t i).isNone then 1 else 0) ≤ (if (K'.2 t i).isNone then 1 else 0)
          rcases (hk t ht hct).2 i hi with e | e
          · rw [e]; show _ ≤ 1; split <;> omega
          · rw [e]; exact Nat.le_refl _) hr (by
          show (if (K.2 t r).isNone then 1 else 0) < (if (K'.2 t r).isNone then 1 else 0)
          rw [e3]
          cases hv : K.2 t r with
          | none => exact absurd hv e1
          | some y => show 0 < 1; omega)
        omega
/-- two solutions, each below every solution, are one -/
theorem Sol_one {n : Nat} {ln pn : Nat → Nat} {F : Nat → Int32} {e : Nat} {en : Nat → Int32} {K K' : KS} (h : Sol n ln pn F e en K) (hb : Bel n ln pn F e en K) (h' : Sol n ln pn F e en K') (hb' : Bel n ln pn F e en K') {q : Nat} (hq : q < 17 * n) : K.1 q = K'.1 q ∧ (K.1 q = true → ∀ r, r < 6 → K.2 q r = K'.2 q r) := by
  have a := hb K' h' q hq
  have b := hb' K h q hq
  cases hc : K.1 q
  · cases hc' : K'.1 q
    · exact ⟨rfl, fun x => by cases x⟩
    · rw [(b hc').1] at hc; cases hc
  · obtain ⟨a1, a2⟩ := a hc
    exact ⟨a1.symm, fun _ r hr => vle_a (a2 r hr) ((b a1).2 r hr)⟩
