/-! PURE 11: the class's finder, one place and all -/
theorem rsl_0 (oa : Option Int32) : rsl 0 oa oa = rsl 0 oa (some 0) := by
  cases oa with
  | none => rfl
  | some a =>
    have h : ∀ b, f_X8_reckon (nI 0) a b = some a := fun b => by
      unfold f_X8_reckon
      rw [if_neg (by decide), if_neg (by decide), if_neg (by decide), if_neg (by decide)]
    have k : ∀ b, rsl 0 (some a) (some b) = (some a).bind (fun w => if w < (-268435456) then none else if 268435455 < w then none else some w) := fun b => by
      show (f_X8_reckon (nI 0) a b).bind (fun w => if w < (-268435456) then none else if 268435455 < w then none else some w) = _
      rw [h]
    rw [k, k]
theorem reck_s (x a b : Int32) : ∃ w, f_X8_reckon x a b = some w := by
  unfold f_X8_reckon
  by_cases h1 : x = 1
  · exact ⟨_, by rw [if_pos h1]⟩
  · by_cases h2 : x = 2
    · exact ⟨_, by rw [if_neg h1, if_pos h2]⟩
    · by_cases h3 : x = 3
      · exact ⟨_, by rw [if_neg h1, if_neg h2, if_pos h3]⟩
      · by_cases h4 : x = 4
        · by_cases h5 : b ≤ a
          · exact ⟨_, by rw [if_neg h1, if_neg h2, if_neg h3, if_pos h4, if_pos h5]⟩
          · exact ⟨_, by rw [if_neg h1, if_neg h2, if_neg h3, if_pos h4, if_neg h5]⟩
        · exact ⟨_, by rw [if_neg h1, if_neg h2, if_neg h3, if_neg h4]⟩
theorem q_comp {q d op : Nat} (hq : q < 204) (hd : d < 6) {oA oB : Int32} (hA : isOpd oA) (hB : isOpd oB) (x1 x2 : Int32) (ls F an nu : Nat → Int32) {ra : Nat → Int32} (rn : Nat → Int32) (hra : B01 6 ra) : ∃ ra' rn', f_X0_putComputed_54 x1 x2 (nI op) ls F an nu (nI d) (nI q) oA oB ra rn = some (ra', rn') ∧ B01 6 ra' ∧ ∀ i, rV ra' rn' i = if i = d then rsl op (opv (kV an nu q) oA) (opv (kV an nu q) oB) else rV ra rn i := by
  have h1 : B01 6 (upd ra d 1) := B01_u hra (Or.inr rfl)
  unfold f_X0_putComputed_54
  rw [q_bind (q_putA hd ra rn)]
  rcases q_has hq hA an nu with ⟨a1, a2, _⟩ | ⟨a, a1, a2, a3, _⟩
  · rw [q_bind a2, if_pos rfl]
    exact ⟨_, _, rfl, h1, fun i => by rw [rV_A, a1]; rfl⟩
  · rw [q_bind a2, if_neg (by decide)]
    rcases q_has hq hB an nu with ⟨b1, b2, _⟩ | ⟨b, b1, b2, b3, _⟩
    · rw [q_bind b2, if_pos rfl]
      exact ⟨_, _, rfl, h1, fun i => by rw [rV_A, a1, b1]; rfl⟩
    · rw [q_bind b2, if_neg (by decide), q_bind a3, q_bind b3]
      obtain ⟨w, hw⟩ := reck_s (nI op) a b
      have hr : rsl op (some a) (some b) = if w < (-268435456) then none else if 268435455 < w then none else some w := by
        show (f_X8_reckon (nI op) a b).bind _ = _
        rw [hw]; rfl
      rw [q_bind (show f_X7_compute (nI op) a b = some w from hw)]
      by_cases c1 : w < (-268435456)
      · rw [if_pos c1]
        exact ⟨_, _, rfl, h1, fun i => by rw [rV_A, a1, b1, hr, if_pos c1]⟩
      · rw [if_neg c1]
        by_cases c2 : 268435455 < w
        · rw [if_pos c2]
          exact ⟨_, _, rfl, h1, fun i => by rw [rV_A, a1, b1, hr, if_neg c1, if_pos c2]⟩
        · rw [if_neg c2, q_bind (q_putN hd w _ _)]
          refine ⟨_, _, rfl, B01_u h1 (Or.inl rfl), fun i => ?_⟩
          rw [rV_N, rV_A, a1, b1, hr, if_neg c1, if_neg c2]
          by_cases e : i = d
          · rw [if_pos e, if_pos e]
          · rw [if_neg e, if_neg e, if_neg e]
theorem chg_k {e : Nat} {F : Nat → Int32} {op d s : Nat} {v : Nat → Option Int32} (h : op = 6 ∨ op = 7 ∨ op = 8 ∨ op = 9 ∨ op = 12) (r : Nat) : chg e F op d s v r = v r := by
  unfold chg
  by_cases hr : r = d
  · rw [if_pos hr, if_neg (by omega), if_neg (by omega), if_neg (by omega), if_neg (by omega)]
  · rw [if_neg hr]
theorem q_put {n : Nat} {ln pn : Nat → Nat} {F : Nat → Int32} {e : Nat} {en pc ls : Nat → Int32} (hW : WP n pn ln pc ls F e en) (hn : n ≤ 12) (he : e ≤ 4) {f p op d : Nat} (hf : f < n) (hp : p < ln f) (hop : op ≤ 5 ∨ op = 10 ∨ op = 11) (hd : d < 6) (e1 : F (96 * f + 6 * p + 1) = nI d) (hu : ∀ j, j < usesN op → isOpd (F (96 * f + 6 * p + 3 + j))) (an nu : Nat → Int32) {ra rn : Nat → Int32} (hra : B01 6 ra) (hrow : ∀ i, i < 6 → rV ra rn i = kV an nu (17 * f + p) i) :
    ∃ ra' rn', f_X0_putResult (nI f) (nI p) (nI op) (nI e) ls F an nu ra rn = some (ra', rn') ∧ B01 6 ra' ∧ ∀ i, i < 6 → rV ra' rn' i = chg e F op d (96 * f + 6 * p) (kV an nu (17 * f + p)) i := by
  obtain ⟨l1, l2, l3, l4⟩ := hW.1 f hf
  have hX : ∀ w, w < 6 → f_X4_fieldOf (nI f) (nI p) (nI w) F = some (F (96 * f + 6 * p + w)) := fun w hw => q_fieldOf (by omega) (by omega) hw
  have any : (op = 5 ∨ op = 10 ∨ (op = 11 ∧ e ≠ 0)) → f_X0_putResult_41 (nI f) (nI p) (nI op) (nI e) ls F an nu (nI d) ra rn = some (upd ra d 1, upd rn d 0) ∧ ∀ i, i < 6 → rV (upd ra d 1) (upd rn d 0) i = chg e F op d (96 * f + 6 * p) (kV an nu (17 * f + p)) i := fun h => by
    refine ⟨?_, fun i hi => ?_⟩
    · unfold f_X0_putResult_41
      rw [if_neg (show ¬ nI op ≤ 4 from nI_ge (a := 4) (by omega) (by omega)), q_bind (q_putA hd ra rn)]
    · rw [rV_A]
      unfold chg
      by_cases hr : i = d
      · rw [if_pos hr, if_pos hr, if_neg (by omega), if_neg (by omega)]
        by_cases h5 : op = 5 ∨ op = 10
        · rw [if_pos h5]
        · rw [if_neg h5, if_pos (by omega), if_neg (by omega)]
      · rw [if_neg hr, if_neg hr]; exact hrow i hi
  unfold f_X0_putResult
  rw [q_bind (show f_X4_fieldOf (nI f) (nI p) 1 F = _ from hX 1 (by omega)), e1]
  by_cases h11 : op = 11
  · rw [if_pos (show nI op = 11 by rw [h11]; rfl)]
    by_cases he0 : e = 0
    · rw [if_pos (show nI e = 0 by rw [he0]; rfl), q_bind (q_putN hd 0 ra rn)]
      refine ⟨_, _, rfl, B01_u hra (Or.inl rfl), fun i hi => ?_⟩
      rw [rV_N]
      unfold chg
      by_cases hr : i = d
      · rw [if_pos hr, if_pos hr, if_neg (by omega), if_neg (by omega), if_neg (by omega), if_pos h11, if_pos he0]
      · rw [if_neg hr, if_neg hr]; exact hrow i hi
    · obtain ⟨a, b⟩ := any (Or.inr (Or.inr ⟨h11, he0⟩))
      rw [if_neg (nI_ne0 (by omega) (by omega)), a]
      exact ⟨_, _, rfl, B01_u hra (Or.inr rfl), b⟩
  · rw [if_neg (show ¬ nI op = 11 from fun q => h11 ((nI_eq (b := 11) (by omega) (by omega)).mp q))]
    by_cases h4 : op ≤ 4
    · unfold f_X0_putResult_41 f_X0_putComputed
      rw [if_pos (show nI op ≤ 4 from nI_le (b := 4) h4 (by omega)), q_bind (show f_X4_fieldOf (nI f) (nI p) 1 F = _ from hX 1 (by omega)), e1, q_bind (q_place hW hn hf hp), q_bind (show f_X4_fieldOf (nI f) (nI p) 3 F = _ from hX 3 (by omega))]
      by_cases h0 : op = 0
      · subst h0
        have hA : isOpd (F (96 * f + 6 * p + 3)) := hu 0 (by decide)
        obtain ⟨ra', rn', a, b, c⟩ := q_comp (q := 17 * f + p) (op := 0) (by omega) hd hA hA (nI f) (nI p) ls F an nu rn hra
        rw [if_pos (by decide), q_bind a]
        refine ⟨ra', rn', rfl, b, fun i hi => ?_⟩
        rw [c]
        unfold chg
        by_cases hr : i = d
        · rw [if_pos hr, if_pos hr, if_pos rfl, rsl_0]
        · rw [if_neg hr, if_neg hr]; exact hrow i hi
      · have h2 : usesN op = 2 := by
          rcases (show op = 1 ∨ op = 2 ∨ op = 3 ∨ op = 4 by omega) with rfl | rfl | rfl | rfl <;> rfl
        have hA : isOpd (F (96 * f + 6 * p + 3)) := hu 0 (by omega)
        have hB : isOpd (F (96 * f + 6 * p + 4)) := hu 1 (by omega)
        obtain ⟨ra', rn', a, b, c⟩ := q_comp (q := 17 * f + p) (op := op) (by omega) hd hA hB (nI f) (nI p) ls F an nu rn hra
        rw [if_neg (nI_ne0 (by omega) (by omega)), q_bind (show f_X4_fieldOf (nI f) (nI p) 4 F = _ from hX 4 (by omega)), q_bind a]
        refine ⟨ra', rn', rfl, b, fun i hi => ?_⟩
        rw [c]
        unfold chg
        by_cases hr : i = d
        · rw [if_pos hr, if_pos hr, if_neg h0, if_pos h4]
        · rw [if_neg hr, if_neg hr]; exact hrow i hi
    · obtain ⟨a, b⟩ := any (by omega)
      rw [a]
      exact ⟨_, _, rfl, B01_u hra (Or.inr rfl), b⟩
/-- the one arrival of a statement that has but one -/
theorem q_one {n : Nat} {ln pn : Nat → Nat} {F : Nat → Int32} {e : Nat} {en pc ls : Nat → Int32} (hW : WP n pn ln pc ls F e en) (hn : n ≤ 12) {N : Nat} (hN : 20000 ≤ N) {f p op d x w pops : Nat} (hf : f < n) (hp : p < ln f) (hop : op ≤ 12) (hd : d < 6) (e0 : F (96 * f + 6 * p) = nI op) (e1 : F (96 * f + 6 * p + 1) = nI d) (hu : ∀ j, j < usesN op → isOpd (F (96 * f + 6 * p + 3 + j))) (hx : x ≤ 16)
    {ct an nu ra rn iw wt : Nat → Int32} (hC : CI n pops ct an nu iw wt w) (hra : B01 6 ra) (hB : Bel n ln pn F e en (kC ct an nu)) (hc : (kC ct an nu).1 (17 * f + p) = true) (hrow : ∀ i, i < 6 → rV ra rn i = chg e F op d (96 * f + 6 * p) (kV an nu (17 * f + p)) i)
    (h1 : ArrN ln F e op d f p (96 * f + 6 * p) (kV an nu (17 * f + p)) (17 * f + min x (ln f)) (chg e F op d (96 * f + 6 * p) (kV an nu (17 * f + p)))) (h2 : ∀ t row, ArrN ln F e op d f p (96 * f + 6 * p) (kV an nu (17 * f + p)) t row → t = 17 * f + min x (ln f) ∧ row = chg e F op d (96 * f + 6 * p) (kV an nu (17 * f + p))) :
    ∃ (w' : Nat) (ct' an' nu' iw' wt' : Nat → Int32), f_X0_arriveAt N (nI f) (nI x) (nI w) ls ct an nu ra rn iw wt = some (nI w', ct', an', nu', iw', wt') ∧ CI n pops ct' an' nu' iw' wt' w' ∧ Bel n ln pn F e en (kC ct' an' nu') ∧ Grow n (kC ct an nu) iw (kC ct' an' nu') iw' ∧ (iw' (17 * f + p) ≠ 0 ∨ ∀ t row, ArrN ln F e op d f p (96 * f + 6 * p) ((kC ct' an' nu').2 (17 * f + p)) t row → (kC ct' an' nu').1 t = true ∧ rle row ((kC ct' an' nu').2 t)) := by
  obtain ⟨l1, l2, l3, l4⟩ := hW.1 f hf
  have hJ := Jus_arr hB hf hp l4 (hW.2.2.1 f hf p hp) (fun g hg => (hW.1 g hg).2.1) hc (show Arr n ln pn F e en f p (kV an nu (17 * f + p)) _ _ from ⟨op, d, hop, hd, e0, e1, Or.inr h1⟩)
  obtain ⟨w', ct', an', nu', iw', wt', a1, a2, a3, a4, a5, a6⟩ := q_arrive hW hn hN hf hx rfl hC hra hB hrow hJ
  refine ⟨w', ct', an', nu', iw', wt', a1, a2, a3, a4, ?_⟩
  rcases a4.2.2 (17 * f + p) (by omega) with b | ⟨_, b⟩
  · exact Or.inl b
  · right
    intro t row ha
    obtain ⟨row', c1, c2⟩ := ArrN_m hu (rle_e b) ha
    obtain ⟨rfl, rfl⟩ := h2 t row' c1
    exact ⟨a5, rle_t c2 a6⟩
theorem q_44 {n : Nat} {ln pn : Nat → Nat} {F : Nat → Int32} {e : Nat} {en pc ls : Nat → Int32} (hW : WP n pn ln pc ls F e en) (hn : n ≤ 12) (he : e ≤ 4) {N : Nat} (hN : 20000 ≤ N) {f p op d w pops : Nat} (hf : f < n) (hp : p < ln f) (hop : op ≤ 12) (hd : d < 6) (e0 : F (96 * f + 6 * p) = nI op) (e1 : F (96 * f + 6 * p + 1) = nI d) (hu : ∀ j, j < usesN op → isOpd (F (96 * f + 6 * p + 3 + j))) (h78 : op = 7 ∨ op = 8 → ∃ x : Nat, x ≤ 16 ∧ F (96 * f + 6 * p + 2) = nI x)
    {ct an nu ra rn iw wt : Nat → Int32} (hC : CI n pops ct an nu iw wt w) (hra : B01 6 ra) (hB : Bel n ln pn F e en (kC ct an nu)) (hc : (kC ct an nu).1 (17 * f + p) = true) :
    ∃ (w' : Nat) (ct' an' nu' ra' rn' iw' wt' : Nat → Int32), f_X0_goOnFrom_44 N (nI f) (nI p) (nI e) pc ls F en (nI op) (nI w) ct an nu ra rn iw wt = some (nI w', ct', an', nu', ra', rn', iw', wt') ∧ B01 6 ra' ∧ CI n pops ct' an' nu' iw' wt' w' ∧ Bel n ln pn F e en (kC ct' an' nu') ∧ Grow n (kC ct an nu) iw (kC ct' an' nu') iw' ∧ (iw' (17 * f + p) ≠ 0 ∨ ∀ t row, ArrN ln F e op d f p (96 * f + 6 * p) ((kC ct' an' nu').2 (17 * f + p)) t row → (kC ct' an' nu').1 t = true ∧ rle row ((kC ct' an' nu').2 t)) := by
  obtain ⟨l1, l2, l3, l4⟩ := hW.1 f hf
  obtain ⟨ra1, rn1, t1, t2, t3⟩ := q_takeR (q := 17 * f + p) (by omega) hN an nu rn hra
  have ne : ∀ j : Nat, j < 100 → op ≠ j → ¬ nI op = nI j := fun j hj h q => h ((nI_eq (by omega) (by omega)).mp q)
  unfold f_X0_goOnFrom_44
  rw [q_bind (q_place hW hn hf hp), q_bind t1, nI_1]
  have uni : op ≠ 7 ∧ op ≠ 8 ∧ op ≠ 9 → ∀ t row, ArrN ln F e op d f p (96 * f + 6 * p) (kV an nu (17 * f + p)) t row → t = 17 * f + min (p + 1) (ln f) ∧ row = chg e F op d (96 * f + 6 * p) (kV an nu (17 * f + p)) := fun h t row ha => by
    rcases ha with ⟨a1, _⟩ | ⟨a1, a2, a3⟩
    · rcases a1 with a1 | ⟨a1, _⟩ <;> omega
    · exact ⟨a2, a3⟩
  have onA : op ≠ 7 ∧ op ≠ 8 ∧ op ≠ 9 → ArrN ln F e op d f p (96 * f + 6 * p) (kV an nu (17 * f + p)) (17 * f + min (p + 1) (ln f)) (chg e F op d (96 * f + 6 * p) (kV an nu (17 * f + p))) := fun h => Or.inr ⟨Or.inl h, rfl, rfl⟩
  have keep : op = 6 ∨ op = 7 ∨ op = 8 ∨ op = 9 ∨ op = 12 → ∀ i, i < 6 → rV ra1 rn1 i = chg e F op d (96 * f + 6 * p) (kV an nu (17 * f + p)) i := fun h i hi => by rw [t3 i hi, chg_k h]
  by_cases h6 : op = 6
  · obtain ⟨w', ct', an', nu', iw', wt', a1, a2, a3, a4, a5⟩ := q_one (x := p + 1) hW hn hN hf hp hop hd e0 e1 hu (by omega) hC t2 hB hc (keep (by omega)) (onA (by omega)) (uni (by omega))
    rw [if_pos (show nI op = 6 by rw [h6]; rfl), q_bind a1]
    exact ⟨w', ct', an', nu', ra1, rn1, iw', wt', rfl, t2, a2, a3, a4, a5⟩
  rw [if_neg (show ¬ nI op = 6 from ne 6 (by omega) h6)]
  by_cases h7 : op = 7
  · obtain ⟨x, hx, ex⟩ := h78 (Or.inl h7)
    have hX : f_X4_fieldOf (nI f) (nI p) 2 F = some (F (96 * f + 6 * p + 2)) := q_fieldOf (w := 2) (by omega) (by omega) (by omega)
    have hA : f_X4_fieldOf (nI f) (nI p) 3 F = some (F (96 * f + 6 * p + 3)) := q_fieldOf (w := 3) (by omega) (by omega) (by omega)
    have hAo : isOpd (F (96 * f + 6 * p + 3)) := hu 0 (by rw [h7]; decide)
    rw [if_pos (show nI op = 7 by rw [h7]; rfl)]
    unfold f_X0_goOnFromIf
    rw [q_bind (q_place hW hn hf hp), q_bind hA]
    rcases q_has (q := 17 * f + p) (by omega) hAo an nu with ⟨a, b, _⟩ | ⟨y, a, b, c, _⟩
    · have hJ := fun t row h => Jus_arr hB hf hp l4 (hW.2.2.1 f hf p hp) (fun g hg => (hW.1 g hg).2.1) hc (show Arr n ln pn F e en f p (kV an nu (17 * f + p)) t row from ⟨op, d, hop, hd, e0, e1, Or.inr h⟩)
      obtain ⟨w1, ct1, an1, nu1, iw1, wt1, a1, a2, a3, a4, a5, a6⟩ := q_arrive (x := x) hW hn hN hf hx rfl hC t2 hB (keep (by omega)) (hJ _ _ (Or.inl ⟨Or.inr ⟨h7, by rw [a]; exact fun z => by cases z⟩, x, hx, ex, rfl, rfl⟩))
      obtain ⟨w2, ct2, an2, nu2, iw2, wt2, b1, b2, b3, b4, b5, b6⟩ := q_arrive (x := p + 1) hW hn hN hf (by omega) rfl a2 t2 a3 (keep (by omega)) (hJ _ _ (Or.inr ⟨Or.inr ⟨h7, Or.inl a⟩, rfl, rfl⟩))
      rw [q_bind b, if_pos rfl]
      unfold f_X0_goOnFromIf_56
      rw [q_bind hX, ex, q_bind a1]
      unfold f_X0_goOnFromIf_79
      rw [if_pos rfl, if_pos rfl, nI_1, q_bind b1, q_bind rfl]
      refine ⟨w2, ct2, an2, nu2, ra1, rn1, iw2, wt2, rfl, t2, b2, b3, Grow_t a4 b4, ?_⟩
      rcases (Grow_t a4 b4).2.2 (17 * f + p) (by omega) with q | ⟨_, q⟩
      · exact Or.inl q
      · right
        intro t row ha
        obtain ⟨row', c1, c2⟩ := ArrN_m hu (rle_e q) ha
        rcases c1 with ⟨_, x', d1, d2, d3, d4⟩ | ⟨_, d2, d3⟩
        · obtain rfl : x' = x := (nI_eq (by omega) (by omega)).mp (d2.symm.trans ex)
          subst d3 d4
          obtain ⟨g1, g2⟩ := b4.1 _ (by omega) a5
          exact ⟨g1, rle_t c2 (rle_t a6 g2)⟩
        · subst d2 d3
          exact ⟨b5, rle_t c2 b6⟩
    · rw [q_bind b, if_neg (by decide), q_bind c]
      by_cases hy : y = 0
      · subst hy
        obtain ⟨w', ct', an', nu', iw', wt', a1, a2, a3, a4, a5⟩ := q_one (x := p + 1) hW hn hN hf hp hop hd e0 e1 hu (by omega) hC t2 hB hc (keep (by omega)) (Or.inr ⟨Or.inr ⟨h7, Or.inr a⟩, rfl, rfl⟩) (fun t row ha => by
          rcases ha with ⟨b1, _⟩ | ⟨_, b2, b3⟩
          · rcases b1 with b1 | ⟨_, b1⟩
            · omega
            · exact absurd a b1
          · exact ⟨b2, b3⟩)
        rw [if_pos rfl]
        unfold f_X0_goOnFromIf_79
        rw [if_neg (by decide), nI_1, q_bind a1, q_bind rfl]
        exact ⟨w', ct', an', nu', ra1, rn1, iw', wt', rfl, t2, a2, a3, a4, a5⟩
      · obtain ⟨w', ct', an', nu', iw', wt', a1, a2, a3, a4, a5⟩ := q_one (x := x) hW hn hN hf hp hop hd e0 e1 hu hx hC t2 hB hc (keep (by omega)) (Or.inl ⟨Or.inr ⟨h7, by rw [a]; exact fun z => hy (Option.some.inj z)⟩, x, hx, ex, rfl, rfl⟩) (fun t row ha => by
          rcases ha with ⟨_, x', d1, d2, d3, d4⟩ | ⟨b1, _⟩
          · obtain rfl : x' = x := (nI_eq (by omega) (by omega)).mp (d2.symm.trans ex)
            exact ⟨d3, d4⟩
          · rcases b1 with b1 | ⟨_, b1⟩
            · omega
            · rw [a] at b1
              rcases b1 with b1 | b1
              · cases b1
              · exact absurd (Option.some.inj b1) hy)
        rw [if_neg hy]
        unfold f_X0_goOnFromIf_56
        rw [q_bind hX, ex, q_bind a1]
        unfold f_X0_goOnFromIf_79
        rw [if_pos rfl, if_neg (by decide), q_bind rfl]
        exact ⟨w', ct', an', nu', ra1, rn1, iw', wt', rfl, t2, a2, a3, a4, a5⟩
  rw [if_neg (show ¬ nI op = 7 from ne 7 (by omega) h7)]
  by_cases h8 : op = 8
  · obtain ⟨x, hx, ex⟩ := h78 (Or.inr h8)
    have hX : f_X4_fieldOf (nI f) (nI p) 2 F = some (F (96 * f + 6 * p + 2)) := q_fieldOf (w := 2) (by omega) (by omega) (by omega)
    obtain ⟨w', ct', an', nu', iw', wt', a1, a2, a3, a4, a5⟩ := q_one (x := x) hW hn hN hf hp hop hd e0 e1 hu hx hC t2 hB hc (keep (by omega)) (Or.inl ⟨Or.inl h8, x, hx, ex, rfl, rfl⟩) (fun t row ha => by
      rcases ha with ⟨_, x', d1, d2, d3, d4⟩ | ⟨b1, _⟩
      · obtain rfl : x' = x := (nI_eq (by omega) (by omega)).mp (d2.symm.trans ex)
        exact ⟨d3, d4⟩
      · rcases b1 with b1 | ⟨b1, _⟩ <;> omega)
    rw [if_pos (show nI op = 8 by rw [h8]; rfl), q_bind hX, ex, q_bind a1]
    exact ⟨w', ct', an', nu', ra1, rn1, iw', wt', rfl, t2, a2, a3, a4, a5⟩
  rw [if_neg (show ¬ nI op = 8 from ne 8 (by omega) h8)]
  by_cases h9 : op = 9
  · rw [if_pos (show nI op = 9 by rw [h9]; rfl)]
    refine ⟨w, ct, an, nu, ra1, rn1, iw, wt, rfl, t2, hC, hB, Grow_r _ _ _, Or.inr ?_⟩
    intro t row ha
    rcases ha with ⟨b1, _⟩ | ⟨b1, _⟩
    · rcases b1 with b1 | ⟨b1, _⟩ <;> omega
    · rcases b1 with b1 | ⟨b1, _⟩ <;> omega
  rw [if_neg (show ¬ nI op = 9 from ne 9 (by omega) h9)]
  by_cases h12 : op = 12
  · obtain ⟨w', ct', an', nu', iw', wt', a1, a2, a3, a4, a5⟩ := q_one (x := p + 1) hW hn hN hf hp hop hd e0 e1 hu (by omega) hC t2 hB hc (keep (by omega)) (onA (by omega)) (uni (by omega))
    rw [if_pos (show nI op = 12 by rw [h12]; rfl), q_bind a1]
    exact ⟨w', ct', an', nu', ra1, rn1, iw', wt', rfl, t2, a2, a3, a4, a5⟩
  rw [if_neg (show ¬ nI op = 12 from ne 12 (by omega) h12)]
  obtain ⟨ra2, rn2, u1, u2, u3⟩ := q_put hW hn he hf hp (by omega) hd e1 hu an nu t2 t3
  obtain ⟨w', ct', an', nu', iw', wt', a1, a2, a3, a4, a5⟩ := q_one (x := p + 1) hW hn hN hf hp hop hd e0 e1 hu (by omega) hC u2 hB hc u3 (onA (by omega)) (uni (by omega))
  rw [q_bind u1, q_bind a1]
  exact ⟨w', ct', an', nu', ra2, rn2, iw', wt', rfl, u2, a2, a3, a4, a5⟩
theorem q_goOn {n : Nat} {ln pn : Nat → Nat} {F : Nat → Int32} {e : Nat} {en pc ls : Nat → Int32} (hW : WP n pn ln pc ls F e en) (hn : n ≤ 12) (he : e ≤ 4) {N : Nat} (hN : 20000 ≤ N) {f p w pops : Nat} (hf : f < n) (hp17 : p < 17)
    {ct an nu ra rn iw wt : Nat → Int32} (hC : CI n pops ct an nu iw wt w) (hra : B01 6 ra) (hB : Bel n ln pn F e en (kC ct an nu)) (hc : (kC ct an nu).1 (17 * f + p) = true) :
    ∃ (w' : Nat) (ct' an' nu' ra' rn' iw' wt' : Nat → Int32), f_X0_goOnFrom N (nI f) (nI p) (nI w) (nI e) pc ls F en ct an nu ra rn iw wt = some (nI w', ct', an', nu', ra', rn', iw', wt') ∧ B01 6 ra' ∧ CI n pops ct' an' nu' iw' wt' w' ∧ Bel n ln pn F e en (kC ct' an' nu') ∧ Grow n (kC ct an nu) iw (kC ct' an' nu') iw' ∧ (p < ln f → iw' (17 * f + p) ≠ 0 ∨ Sat n ln pn F e en (kC ct' an' nu') f p) := by
  obtain ⟨l1, l2, l3, l4⟩ := hW.1 f hf
  unfold f_X0_goOnFrom
  rw [q_bind (q_rd (by omega) (by omega)), l3]
  by_cases hp : p < ln f
  · obtain ⟨op, d, hop, hd, e0, e1, hu, h78, h10, h11⟩ := hW.2.2.1 f hf p hp
    have ne : ∀ j : Nat, j < 100 → op ≠ j → ¬ nI op = nI j := fun j hj h q => h ((nI_eq (by omega) (by omega)).mp q)
    have hpn : ∀ g, g < n → pn g ≤ 3 := fun g hg => (hW.1 g hg).2.1
    rw [if_pos (nI_lt hp (by omega)), q_bind (show f_X4_fieldOf (nI f) (nI p) 0 F = _ from q_fieldOf (w := 0) (by omega) (by omega) (by omega)), show F (96 * f + 6 * p + 0) = nI op from e0]
    by_cases hcall : op = 10 ∨ op = 11
    · obtain ⟨w1, ct1, an1, nu1, ra1, rn1, iw1, wt1, a1, a2, a3, a4, a5, a6⟩ := q_calls (rn := rn) hW hn he hN hf hp hcall hd e0 e1 hu h10 h11 hC hra hB hc
      obtain ⟨k1, k2⟩ := a5.1 (17 * f + p) (by omega) hc
      obtain ⟨w2, ct2, an2, nu2, ra2, rn2, iw2, wt2, b1, b2, b3, b4, b5, b6⟩ := q_44 (rn := rn1) hW hn he hN hf hp hop hd e0 e1 hu h78 a3 a2 a4 k1
      have fin : f_X0_goOnFrom_44 N (nI f) (nI p) (nI e) pc ls F en (nI op) (nI w1) ct1 an1 nu1 ra1 rn1 iw1 wt1 = some (nI w2, ct2, an2, nu2, ra2, rn2, iw2, wt2) ∧ (iw2 (17 * f + p) ≠ 0 ∨ Sat n ln pn F e en (kC ct2 an2 nu2) f p) := by
        refine ⟨b1, ?_⟩
        rcases b5.2.2 (17 * f + p) (by omega) with q | ⟨_, q⟩
        · exact Or.inl q
        · rcases b6 with b6 | b6
          · exact Or.inl b6
          · rcases a6 with a6 | a6
            · exact Or.inl (b5.2.1 _ (by omega) a6)
            · right
              intro t row ha
              have htM := Arr_t hf l4 ha
              obtain ⟨op', d', o1, o2, o3, o4, ha⟩ := ha
              obtain rfl : op' = op := (nI_eq (by omega) (by omega)).mp (o3.symm.trans e0)
              obtain rfl : d' = d := (nI_eq (by omega) (by omega)).mp (o4.symm.trans e1)
              rcases ha with ha | ha
              · obtain ⟨row', c1, c2⟩ := ArrC_m hu h11 hpn (rle_e q) ha
                obtain ⟨g1, g2⟩ := a6 t row' c1
                obtain ⟨g3, g4⟩ := b5.1 t htM g1
                exact ⟨g3, rle_t c2 (rle_t g2 g4)⟩
              · exact b6 t row ha
      rcases hcall with h | h
      · rw [if_pos (show nI op = 10 by rw [h]; rfl), q_bind a1]
        exact ⟨w2, ct2, an2, nu2, ra2, rn2, iw2, wt2, fin.1, b2, b3, b4, Grow_t a5 b5, fun _ => fin.2⟩
      · rw [if_neg (show ¬ nI op = 10 from ne 10 (by omega) (by omega)), if_pos (show nI op = 11 by rw [h]; rfl), q_bind a1]
        exact ⟨w2, ct2, an2, nu2, ra2, rn2, iw2, wt2, fin.1, b2, b3, b4, Grow_t a5 b5, fun _ => fin.2⟩
    · obtain ⟨w2, ct2, an2, nu2, ra2, rn2, iw2, wt2, b1, b2, b3, b4, b5, b6⟩ := q_44 (rn := rn) hW hn he hN hf hp hop hd e0 e1 hu h78 hC hra hB hc
      rw [if_neg (show ¬ nI op = 10 from ne 10 (by omega) (by omega)), if_neg (show ¬ nI op = 11 from ne 11 (by omega) (by omega))]
      refine ⟨w2, ct2, an2, nu2, ra2, rn2, iw2, wt2, b1, b2, b3, b4, b5, fun _ => ?_⟩
      rcases b6 with b6 | b6
      · exact Or.inl b6
      · right
        intro t row ha
        obtain ⟨op', d', o1, o2, o3, o4, ha⟩ := ha
        obtain rfl : op' = op := (nI_eq (by omega) (by omega)).mp (o3.symm.trans e0)
        obtain rfl : d' = d := (nI_eq (by omega) (by omega)).mp (o4.symm.trans e1)
        rcases ha with ha | ha
        · rcases ha with ⟨x, _⟩ | ⟨x, _⟩ <;> omega
        · exact b6 t row ha
  · rw [if_neg (nI_nlt (by omega) (by omega))]
    exact ⟨w, ct, an, nu, ra, rn, iw, wt, rfl, hra, hC, hB, Grow_r _ _ _, fun h => absurd h hp⟩
