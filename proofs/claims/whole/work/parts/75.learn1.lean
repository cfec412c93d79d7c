/-! PURE 13: the reference's arrivals and calls -/
def DI (n : Nat) (ct an nu : Nat → Int32) : Prop := B01 204 ct ∧ B01 1224 an ∧ ∀ k, k < 102 * n → an k ≠ 0 → nu k = 0
def cdR (was : Int32) (an nu oa ou : Nat → Int32) (q i : Nat) : Prop := was ≠ 0 ∧ kV an nu q i ≠ none ∧ kV an nu q i ≠ rV oa ou i
def nwR (was : Int32) (an nu oa ou : Nat → Int32) (q i : Nat) : Option Int32 := if was = 0 then rV oa ou i else if kV an nu q i = rV oa ou i then kV an nu q i else none
theorem q_come1 {q r : Nat} (hq : q < 204) (hr : r < 6) {was nw : Int32} (hnw : nw = 0 ∨ nw = 1) {an nu oa ou met : Nat → Int32} (han : B01 1224 an) :
    ∃ z nw' : Int32, (z = 0 ∨ z = 1) ∧ (nw' = 0 ∨ nw' = 1) ∧ (∀ (N m : Nat) (x1 x2 : Int32) (len : Nat → Int32), f_X8_come_65 N x1 x2 len oa ou (m + 1) (nI q) was (nI r) nw met an nu = f_X8_come_65 N x1 x2 len oa ou m (nI q) was (nI (r + 1)) nw' met (upd an (6 * q + r) z) (upd nu (6 * q + r) (if z = 0 then ou r else 0))) ∧
      (if z = 0 then some (ou r) else none) = nwR was an nu oa ou q r ∧ ((nw' = 0 ∧ nw = 0 ∧ ¬ cdR was an nu oa ou q r) ∨ (nw' = 1 ∧ (nw = 1 ∨ cdR was an nu oa ou q r))) := by
  have hanr := han (6 * q + r) (by omega)
  refine Classical.byContradiction (fun hgoal => ?_)
  -- the write
  have w160 : ∀ (N : Nat) (k65 : Int32 → Int32 → Int32 → Int32 → (Nat → Int32) → (Nat → Int32) → (Nat → Int32) → Option (Int32 × (Nat → Int32) × (Nat → Int32) × (Nat → Int32))) (x1 x2 x3 x4 z y n0 : Int32) (len : Nat → Int32), (z = 0 ∨ z = 1) → (y = 0 ∨ y = 1) → f_X8_come_160 N k65 x1 x2 len oa ou x3 x4 (nI r) (nI (6 * q + r)) z y n0 met an nu = k65 x3 x4 (nI (r + 1)) y met (upd an (6 * q + r) z) (upd nu (6 * q + r) (if z = 0 then ou r else 0)) := by
    intro N k65 x1 x2 x3 x4 z y n0 len hz hy
    unfold f_X8_come_160
    rw [q_bind (q_zr hy), q_bind (q_wz (by omega) (by omega) hz), nI_1]
    by_cases h0 : z = 0
    · rw [if_pos h0, q_bind (q_rd hr (by omega)), q_bind (q_wr (by omega) (by omega)), if_pos h0]
    · rw [if_neg h0, q_bind (q_wr (by omega) (by omega)), if_neg h0]
  -- news
  have w128 : ∀ z : Int32, (z = 0 ∨ z = 1) → ∃ y : Int32, (y = 0 ∨ y = 1) ∧ (∀ (N : Nat) (k65 : Int32 → Int32 → Int32 → Int32 → (Nat → Int32) → (Nat → Int32) → (Nat → Int32) → Option (Int32 × (Nat → Int32) × (Nat → Int32) × (Nat → Int32))) (x1 x2 x3 : Int32) (len : Nat → Int32), f_X8_come_128 N k65 x1 x2 len oa ou x3 was (nI r) (nI (6 * q + r)) z nw met an nu = k65 x3 was (nI (r + 1)) y met (upd an (6 * q + r) z) (upd nu (6 * q + r) (if z = 0 then ou r else 0))) ∧ ((y = 0 ∧ nw = 0 ∧ ¬ (was ≠ 0 ∧ z ≠ an (6 * q + r))) ∨ (y = 1 ∧ (nw = 1 ∨ (was ≠ 0 ∧ z ≠ an (6 * q + r))))) := by
    intro z hz
    by_cases h0 : nw = 0
    · by_cases h1 : was = 0
      · exact ⟨0, Or.inl rfl, fun N k65 x1 x2 x3 len => by unfold f_X8_come_128; rw [if_pos h0, if_pos h1, w160 _ _ _ _ _ _ _ _ _ _ hz (Or.inl rfl)], Or.inl ⟨rfl, h0, fun x => x.1 h1⟩⟩
      · by_cases h2 : z = an (6 * q + r)
        · exact ⟨0, Or.inl rfl, fun N k65 x1 x2 x3 len => by unfold f_X8_come_128; rw [if_pos h0, if_neg h1, q_bind (q_rd (by omega) (by omega)), if_pos h2, w160 _ _ _ _ _ _ _ _ _ _ hz (Or.inl rfl)], Or.inl ⟨rfl, h0, fun x => x.2 h2⟩⟩
        · exact ⟨1, Or.inr rfl, fun N k65 x1 x2 x3 len => by unfold f_X8_come_128; rw [if_pos h0, if_neg h1, q_bind (q_rd (by omega) (by omega)), if_neg h2, w160 _ _ _ _ _ _ _ _ _ _ hz (Or.inr rfl)], Or.inr ⟨rfl, Or.inr ⟨h1, h2⟩⟩⟩
    · exact ⟨1, Or.inr rfl, fun N k65 x1 x2 x3 len => by unfold f_X8_come_128; rw [if_neg h0, w160 _ _ _ _ _ _ _ _ _ _ hz (Or.inr rfl)], Or.inr ⟨rfl, Or.inl (hnw.resolve_left h0)⟩⟩
  have start : ∀ (z : Int32), (z = 0 ∨ z = 1) → (∀ (N m : Nat) (x1 x2 : Int32) (len : Nat → Int32), f_X8_come_65 N x1 x2 len oa ou (m + 1) (nI q) was (nI r) nw met an nu = f_X8_come_128 N (f_X8_come_65 N x1 x2 len oa ou m) x1 x2 len oa ou (nI q) was (nI r) (nI (6 * q + r)) z nw met an nu) → (if z = 0 then some (ou r) else none) = nwR was an nu oa ou q r → (was ≠ 0 → (z ≠ an (6 * q + r) ↔ kV an nu q r ≠ none ∧ kV an nu q r ≠ rV oa ou r)) → False := fun z hz a b c => by
    obtain ⟨y, y1, y2, y3⟩ := w128 z hz
    refine hgoal ⟨z, y, hz, y1, fun N m x1 x2 len => by rw [a, y2], b, ?_⟩
    rcases y3 with ⟨d1, d2, d3⟩ | ⟨d1, d2⟩
    · exact Or.inl ⟨d1, d2, fun x => d3 ⟨x.1, (c x.1).mpr x.2⟩⟩
    · exact Or.inr ⟨d1, d2.imp id (fun x => ⟨x.1, (c x.1).mp x.2⟩)⟩
  have pre : ∀ (N m : Nat) (x1 x2 : Int32) (len : Nat → Int32), f_X8_come_65 N x1 x2 len oa ou (m + 1) (nI q) was (nI r) nw met an nu = if oa r = 0 then if was = 0 then f_X8_come_128 N (f_X8_come_65 N x1 x2 len oa ou m) x1 x2 len oa ou (nI q) was (nI r) (nI (6 * q + r)) 0 nw met an nu else if an (6 * q + r) = 0 then if nu (6 * q + r) = ou r then f_X8_come_128 N (f_X8_come_65 N x1 x2 len oa ou m) x1 x2 len oa ou (nI q) was (nI r) (nI (6 * q + r)) 0 nw met an nu else f_X8_come_128 N (f_X8_come_65 N x1 x2 len oa ou m) x1 x2 len oa ou (nI q) was (nI r) (nI (6 * q + r)) 1 nw met an nu else f_X8_come_128 N (f_X8_come_65 N x1 x2 len oa ou m) x1 x2 len oa ou (nI q) was (nI r) (nI (6 * q + r)) 1 nw met an nu else f_X8_come_128 N (f_X8_come_65 N x1 x2 len oa ou m) x1 x2 len oa ou (nI q) was (nI r) (nI (6 * q + r)) 1 nw met an nu := by
    intro N m x1 x2 len
    rw [f_X8_come_65, if_neg (show ¬ 6 ≤ nI r from nI_ge (b := 6) hr (by omega)), q_bind (q_rd hr (by omega)), q_m6, nI_add, q_bind (q_rd (n := 1224) (f := an) (by omega) (by omega)), q_bind (q_rd (n := 1224) (f := nu) (by omega) (by omega)), q_bind (q_rd hr (by omega))]
  by_cases h0 : oa r = 0
  · have hrv : rV oa ou r = some (ou r) := by unfold rV; rw [if_pos h0]
    by_cases h1 : was = 0
    · exact start 0 (Or.inl rfl) (fun N m x1 x2 len => by rw [pre, if_pos h0, if_pos h1]) (by unfold nwR; rw [if_pos rfl, if_pos h1, hrv]) (fun x => absurd h1 x)
    · by_cases h2 : an (6 * q + r) = 0
      · have hkv : kV an nu q r = some (nu (6 * q + r)) := by unfold kV; rw [if_pos h2]
        by_cases h3 : nu (6 * q + r) = ou r
        · refine start 0 (Or.inl rfl) (fun N m x1 x2 len => by rw [pre, if_pos h0, if_neg h1, if_pos h2, if_pos h3]) ?_ (fun _ => ?_)
          · unfold nwR; rw [if_pos rfl, if_neg h1, hrv, hkv, h3, if_pos rfl]
          · rw [h2, hkv, hrv, h3]; exact ⟨fun x => absurd rfl x, fun x => absurd rfl x.2⟩
        · refine start 1 (Or.inr rfl) (fun N m x1 x2 len => by rw [pre, if_pos h0, if_neg h1, if_pos h2, if_neg h3]) ?_ (fun _ => ?_)
          · unfold nwR; rw [if_neg (by decide), if_neg h1, hrv, hkv, if_neg (fun x => h3 (Option.some.inj x))]
          · rw [h2, hkv, hrv]; exact ⟨fun _ => ⟨fun x => (by cases x), fun x => h3 (Option.some.inj x)⟩, fun _ => by decide⟩
      · have hkv : kV an nu q r = none := by unfold kV; rw [if_neg h2]
        refine start 1 (Or.inr rfl) (fun N m x1 x2 len => by rw [pre, if_pos h0, if_neg h1, if_neg h2]) ?_ (fun _ => ?_)
        · unfold nwR; rw [if_neg (by decide), if_neg h1, hrv, hkv, if_neg (fun x => by cases x)]
        · rw [hanr.resolve_left h2, hkv]; exact ⟨fun x => absurd rfl x, fun x => absurd rfl x.1⟩
  · have hrv : rV oa ou r = none := by unfold rV; rw [if_neg h0]
    refine start 1 (Or.inr rfl) (fun N m x1 x2 len => by rw [pre, if_neg h0]) ?_ (fun _ => ?_)
    · unfold nwR
      rw [if_neg (by decide), hrv]
      by_cases h1 : was = 0
      · rw [if_pos h1]
      · rw [if_neg h1]
        by_cases h2 : kV an nu q r = none
        · rw [if_pos h2, h2]
        · rw [if_neg h2]
    · rw [hrv]
      by_cases h2 : an (6 * q + r) = 0
      · have hkv : kV an nu q r = some (nu (6 * q + r)) := by unfold kV; rw [if_pos h2]
        rw [h2, hkv]; exact ⟨fun _ => ⟨fun x => (by cases x), fun x => (by cases x)⟩, fun _ => by decide⟩
      · have hkv : kV an nu q r = none := by unfold kV; rw [if_neg h2]
        rw [hanr.resolve_left h2, hkv]; exact ⟨fun x => absurd rfl x, fun x => absurd rfl x.1⟩
theorem q_comeL {q : Nat} (hq : q < 204) {was : Int32} (N : Nat) (x1 x2 : Int32) (len oa ou met : Nat → Int32) : ∀ (j r m : Nat) (nw : Int32) (an nu : Nat → Int32), r + j = 6 → (nw = 0 ∨ nw = 1) → B01 1224 an →
    ∃ (nw' : Int32) (an' nu' : Nat → Int32), f_X8_come_65 N x1 x2 len oa ou (m + 1 + j) (nI q) was (nI r) nw met an nu = some (nw', met, an', nu') ∧ (nw' = 0 ∨ nw' = 1) ∧ B01 1224 an' ∧ (∀ k, k < 6 * q + r ∨ 6 * q + 6 ≤ k → an' k = an k ∧ nu' k = nu k) ∧ (∀ i, r ≤ i → i < 6 → kV an' nu' q i = nwR was an nu oa ou q i ∧ (an' (6 * q + i) ≠ 0 → nu' (6 * q + i) = 0)) ∧ ((nw' = 0 ∧ nw = 0 ∧ ∀ i, r ≤ i → i < 6 → ¬ cdR was an nu oa ou q i) ∨ (nw' = 1 ∧ (nw = 1 ∨ ∃ i, r ≤ i ∧ i < 6 ∧ cdR was an nu oa ou q i))) := by
  intro j
  induction j with
  | zero =>
    intro r m nw an nu hr hnw han
    obtain rfl : r = 6 := by omega
    refine ⟨nw, an, nu, by rw [show m + 1 + 0 = m + 1 from rfl, f_X8_come_65, if_pos (by decide)], hnw, han, fun _ _ => ⟨rfl, rfl⟩, fun i h1 h2 => by omega, ?_⟩
    rcases hnw with rfl | rfl
    · exact Or.inl ⟨rfl, rfl, fun i h1 h2 => by omega⟩
    · exact Or.inr ⟨rfl, Or.inl rfl⟩
  | succ j ih =>
    intro r m nw an nu hr hnw han
    obtain ⟨z, y, z1, y1, s1, s2, s3⟩ := q_come1 (was := was) (met := met) (nu := nu) (oa := oa) (ou := ou) hq (show r < 6 by omega) hnw han
    obtain ⟨nw', an', nu', a1, a2, a3, a4, a5, a6⟩ := ih (r + 1) m y (upd an (6 * q + r) z) (upd nu (6 * q + r) (if z = 0 then ou r else 0)) (by omega) y1 (B01_u han z1)
    have hkv : ∀ i, r + 1 ≤ i → kV (upd an (6 * q + r) z) (upd nu (6 * q + r) (if z = 0 then ou r else 0)) q i = kV an nu q i := fun i hi => by
      unfold kV; rw [q_upd_n (by omega), q_upd_n (by omega)]
    have hnr : ∀ i, r + 1 ≤ i → nwR was (upd an (6 * q + r) z) (upd nu (6 * q + r) (if z = 0 then ou r else 0)) oa ou q i = nwR was an nu oa ou q i := fun i hi => by
      unfold nwR; rw [hkv i hi]
    have hcd : ∀ i, r + 1 ≤ i → (cdR was (upd an (6 * q + r) z) (upd nu (6 * q + r) (if z = 0 then ou r else 0)) oa ou q i ↔ cdR was an nu oa ou q i) := fun i hi => by
      unfold cdR; rw [hkv i hi]
    refine ⟨nw', an', nu', by rw [show m + 1 + (j + 1) = m + 1 + j + 1 from rfl, s1, a1], a2, a3, fun k hk => ?_, fun i h1 h2 => ?_, ?_⟩
    · obtain ⟨b1, b2⟩ := a4 k (by omega)
      rw [q_upd_n (by omega)] at b1 b2
      exact ⟨b1, b2⟩
    · by_cases e : i = r
      · subst e
        obtain ⟨b1, b2⟩ := a4 (6 * q + i) (by omega)
        rw [q_upd_s] at b1 b2
        refine ⟨?_, fun x => ?_⟩
        · rw [← s2]; unfold kV; rw [b1, b2]
          by_cases h0 : z = 0
          · rw [if_pos h0, if_pos h0, if_pos h0]
          · rw [if_neg h0, if_neg h0]
        · rw [b1] at x; rw [b2, if_neg x]
      · rw [← hnr i (by omega)]; exact a5 i (by omega) h2
    · rcases a6 with ⟨c1, c2, c3⟩ | ⟨c1, c2⟩
      · rcases s3 with ⟨_, d2, d3⟩ | ⟨d1, _⟩
        · refine Or.inl ⟨c1, d2, fun i h1 h2 => ?_⟩
          by_cases e : i = r
          · subst e; exact d3
          · exact fun x => c3 i (by omega) h2 ((hcd i (by omega)).mpr x)
        · rw [c2] at d1; exact absurd d1 (by decide)
      · refine Or.inr ⟨c1, ?_⟩
        rcases c2 with c2 | ⟨i, i1, i2, i3⟩
        · rcases s3 with ⟨d1, _⟩ | ⟨_, d2⟩
          · rw [c2] at d1; exact absurd d1 (by decide)
          · exact d2.imp id (fun x => ⟨r, by omega, by omega, x⟩)
        · exact Or.inr ⟨i, by omega, i2, (hcd i i1).mp i3⟩
theorem q_comeJ {n g x t N : Nat} {ln : Nat → Nat} {len : Nat → Int32} (hN : 20000 ≤ N) (hn : n ≤ 12) (hg : g < n) (hx : x ≤ 16) (hl : len g = nI (ln g)) (hl16 : ln g ≤ 16) (ht : t = 17 * g + min x (ln g)) {nw : Int32} (hnw : nw = 0 ∨ nw = 1) {ct an nu : Nat → Int32} (oa ou : Nat → Int32) (hD : DI n ct an nu) :
    ∃ (nw' : Int32) (ct' an' nu' : Nat → Int32), f_X8_come N (nI g) (nI x) nw len ct an nu oa ou = some (nw', ct', an', nu') ∧ (nw' = 0 ∨ nw' = 1) ∧ DI n ct' an' nu' ∧ jn (kC ct an nu) t (rV oa ou) (kC ct' an' nu') ∧ ((nw' = 0 ∧ nw = 0 ∧ ¬ jch (kC ct an nu) t (rV oa ou)) ∨ (nw' = 1 ∧ (nw = 1 ∨ jch (kC ct an nu) t (rV oa ou)))) := by
  obtain ⟨hct, han, hz⟩ := hD
  have htM : t < 17 * n := by omega
  have ht204 : t < 204 := by omega
  have e24 : f_X8_come N (nI g) (nI x) nw len ct an nu oa ou = f_X8_come_24 N (nI g) (nI x) len oa ou (nI (min x (ln g))) (nI (17 * g)) nw ct an nu := by
    unfold f_X8_come
    rw [q_bind (q_rd (by omega) (by omega)), hl, show (17 : Int32) * nI g = nI (17 * g) from pk_mul 17 g]
    by_cases h : x ≤ ln g
    · rw [if_pos (nI_le h (by omega)), Nat.min_eq_left h]
    · rw [if_neg (nI_ge (by omega) (by omega)), q_bind (q_rd (by omega) (by omega)), hl, Nat.min_eq_right (by omega)]
  have hct' : B01 204 (upd ct t 1) := B01_u hct (Or.inr rfl)
  -- one run of the inner loop
  have run : ∀ y : Int32, (y = 0 ∨ y = 1) → ∃ (nw' : Int32) (an' nu' : Nat → Int32), f_X8_come_65 N (nI g) (nI x) len oa ou N (nI t) (ct t) 0 y (upd ct t 1) an nu = some (nw', upd ct t 1, an', nu') ∧ (nw' = 0 ∨ nw' = 1) ∧ DI n (upd ct t 1) an' nu' ∧ jn (kC ct an nu) t (rV oa ou) (kC (upd ct t 1) an' nu') ∧ ((nw' = 0 ∧ y = 0 ∧ ¬ ∃ i, i < 6 ∧ cdR (ct t) an nu oa ou t i) ∨ (nw' = 1 ∧ (y = 1 ∨ ∃ i, i < 6 ∧ cdR (ct t) an nu oa ou t i))) := by
    intro y hy
    obtain ⟨nw', an', nu', a1, a2, a3, a4, a5, a6⟩ := q_comeL ht204 (was := ct t) N (nI g) (nI x) len oa ou (upd ct t 1) 6 0 (N - 7) y an nu rfl hy han
    rw [show N - 7 + 1 + 6 = N by omega] at a1
    refine ⟨nw', an', nu', a1, a2, ⟨hct', a3, fun k hk h => ?_⟩, ⟨kC_t.mpr (by rw [q_upd_s]; decide), fun k hk => ⟨?_, fun r hr => ?_⟩, fun r hr => ⟨fun h => ?_, fun h => ?_⟩⟩, ?_⟩
    · by_cases hk' : k < 6 * t ∨ 6 * t + 6 ≤ k
      · obtain ⟨b1, b2⟩ := a4 k (by omega)
        rw [b1] at h; rw [b2]; exact hz k hk h
      · have := (a5 (k - 6 * t) (by omega) (by omega)).2
        rw [show 6 * t + (k - 6 * t) = k by omega] at this
        exact this h
    · show (!decide (upd ct t 1 k = 0)) = (!decide (ct k = 0))
      rw [q_upd_n hk]
    · show kV an' nu' k r = kV an nu k r
      unfold kV
      obtain ⟨b1, b2⟩ := a4 (6 * k + r) (by omega)
      rw [b1, b2]
    · show kV an' nu' t r = rV oa ou r
      rw [(a5 r (by omega) hr).1]; unfold nwR; rw [if_pos (kC_f.mp h)]
    · show kV an' nu' t r = if kV an nu t r = rV oa ou r then kV an nu t r else none
      rw [(a5 r (by omega) hr).1]; unfold nwR; rw [if_neg (kC_t.mp h)]
    · rcases a6 with ⟨c1, c2, c3⟩ | ⟨c1, c2⟩
      · exact Or.inl ⟨c1, c2, fun ⟨i, i1, i2⟩ => c3 i (by omega) i1 i2⟩
      · exact Or.inr ⟨c1, c2.imp id (fun ⟨i, _, i1, i2⟩ => ⟨i, i1, i2⟩)⟩
  rw [e24]
  unfold f_X8_come_24
  rw [nI_add, ← ht, q_bind (q_rd ht204 (by omega))]
  by_cases h0 : nw = 0
  · rw [if_pos h0]
    by_cases h1 : ct t = 0
    · obtain ⟨nw', an', nu', a1, a2, a3, a4, a5⟩ := run 1 (Or.inr rfl)
      rw [if_pos h1, q_bind (q_wz ht204 (by omega) (Or.inr rfl))]
      refine ⟨nw', _, an', nu', a1, a2, a3, a4, ?_⟩
      rcases a5 with ⟨_, c2, _⟩ | ⟨c1, _⟩
      · exact absurd c2 (by decide)
      · exact Or.inr ⟨c1, Or.inr (Or.inl (kC_f.mpr h1))⟩
    · obtain ⟨nw', an', nu', a1, a2, a3, a4, a5⟩ := run 0 (Or.inl rfl)
      rw [if_neg h1, q_bind (q_wz ht204 (by omega) (Or.inr rfl))]
      refine ⟨nw', _, an', nu', a1, a2, a3, a4, ?_⟩
      rcases a5 with ⟨c1, _, c3⟩ | ⟨c1, c2⟩
      · refine Or.inl ⟨c1, h0, fun x => ?_⟩
        rcases x with x | ⟨r, hr, x1, x2⟩
        · exact h1 (kC_f.mp x)
        · exact c3 ⟨r, hr, h1, x1, x2⟩
      · rcases c2 with c2 | ⟨i, i1, i2⟩
        · exact absurd c2 (by decide)
        · exact Or.inr ⟨c1, Or.inr (Or.inr ⟨i, i1, i2.2.1, i2.2.2⟩)⟩
  · obtain ⟨nw', an', nu', a1, a2, a3, a4, a5⟩ := run 1 (Or.inr rfl)
    rw [if_neg h0, q_bind (q_wz ht204 (by omega) (Or.inr rfl))]
    refine ⟨nw', _, an', nu', a1, a2, a3, a4, ?_⟩
    rcases a5 with ⟨_, c2, _⟩ | ⟨c1, _⟩
    · exact absurd c2 (by decide)
    · exact Or.inr ⟨c1, Or.inl (hnw.resolve_left h0)⟩
def RG (n : Nat) (K : KS) (nw : Int32) (K' : KS) (nw' : Int32) : Prop := kle (17 * n) K K' ∧ (nw' = 0 ∨ nw' = 1) ∧ (nw' = 0 → nw = 0 ∧ ∀ q, q < 17 * n → K'.1 q = K.1 q ∧ ∀ r, r < 6 → K'.2 q r = K.2 q r) ∧ (nw' ≠ 0 → nw ≠ 0 ∨ mu (17 * n) K + 1 ≤ mu (17 * n) K')
theorem RG_r (n : Nat) (K : KS) {nw : Int32} (h : nw = 0 ∨ nw = 1) : RG n K nw K nw := ⟨kle_r _ _, h, fun x => ⟨x, fun _ _ => ⟨rfl, fun _ _ => rfl⟩⟩, fun x => Or.inl x⟩
theorem RG_t {n : Nat} {K K' K'' : KS} {nw nw' nw'' : Int32} (h : RG n K nw K' nw') (k : RG n K' nw' K'' nw'') : RG n K nw K'' nw'' := by
  refine ⟨kle_t h.1 k.1, k.2.1, fun x => ?_, fun x => ?_⟩
  · obtain ⟨a, b⟩ := k.2.2.1 x
    obtain ⟨c, d⟩ := h.2.2.1 a
    exact ⟨c, fun q hq => ⟨(b q hq).1.trans (d q hq).1, fun r hr => ((b q hq).2 r hr).trans ((d q hq).2 r hr)⟩⟩
  · rcases k.2.2.2 x with a | a
    · rcases h.2.2.2 a with b | b
      · exact Or.inl b
      · exact Or.inr (Nat.le_trans b (mu_m k.1))
    · exact Or.inr (by have := mu_m h.1; omega)
theorem q_comeA {n : Nat} {ln pn : Nat → Nat} {F : Nat → Int32} {e : Nat} {en : Nat → Int32} {g x t N : Nat} {len : Nat → Int32} (hN : 20000 ≤ N) (hn : n ≤ 12) (hg : g < n) (hx : x ≤ 16) (hl : len g = nI (ln g)) (hl16 : ln g ≤ 16) (ht : t = 17 * g + min x (ln g)) {nw : Int32} (hnw : nw = 0 ∨ nw = 1) {ct an nu oa ou : Nat → Int32} {row : Nat → Option Int32} (hD : DI n ct an nu) (hB : Bel n ln pn F e en (kC ct an nu)) (hrow : ∀ r, r < 6 → rV oa ou r = row r) (hJ : Jus n ln pn F e en t row) :
    ∃ (nw' : Int32) (ct' an' nu' : Nat → Int32), f_X8_come N (nI g) (nI x) nw len ct an nu oa ou = some (nw', ct', an', nu') ∧ DI n ct' an' nu' ∧ Bel n ln pn F e en (kC ct' an' nu') ∧ RG n (kC ct an nu) nw (kC ct' an' nu') nw' ∧ (kC ct' an' nu').1 t = true ∧ rle row ((kC ct' an' nu').2 t) := by
  obtain ⟨nw', ct', an', nu', a1, a2, a3, a4, a5⟩ := q_comeJ (ln := ln) hN hn hg hx hl hl16 ht hnw oa ou hD
  refine ⟨nw', ct', an', nu', a1, a3, fun S hS => jn_bel a4 (hB S hS) (hJ S hS).1 (rle_t (rle_e hrow) (hJ S hS).2), ⟨jn_le a4 _, a2, fun x => ?_, fun x => ?_⟩, a4.1, rle_t (rle_e (fun r hr => (hrow r hr).symm)) (jn_row a4)⟩
  · rcases a5 with ⟨_, b2, b3⟩ | ⟨b1, _⟩
    · exact ⟨b2, fun q _ => jn_same a4 b3 q⟩
    · rw [x] at b1; exact absurd b1 (by decide)
  · rcases a5 with ⟨b1, _⟩ | ⟨_, b2⟩
    · exact absurd b1 x
    · rcases b2 with b2 | b2
      · left; rw [b2]; decide
      · exact Or.inr (jn_mu a4 (by omega) b2)
