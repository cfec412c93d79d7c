/-! PURE 4: run, the pieces -/
theorem q_m6 (t : Nat) : (6 : Int32) * nI t = nI (6 * t) := by rw [show (6 : Int32) = nI 6 from rfl, pk_mul]
theorem q_6m (t : Nat) : nI t * 6 = nI (6 * t) := by rw [show (6 : Int32) = nI 6 from rfl, pk_mul, Nat.mul_comm]
theorem q_m3 (t : Nat) : (3 : Int32) * nI t = nI (3 * t) := by rw [show (3 : Int32) = nI 3 from rfl, pk_mul]
theorem q_3m (t : Nat) : nI t * 3 = nI (3 * t) := by rw [show (3 : Int32) = nI 3 from rfl, pk_mul, Nat.mul_comm]
theorem q_sgn (z : Int32) : 0 ≤ z ↔ z.toBitVec.msb = false := by
  rw [Int32.le_iff_toInt_le, BitVec.msb_eq_toInt]
  show (0 : Int) ≤ z.toBitVec.toInt ↔ _
  rw [decide_eq_false_iff_not, Int.not_lt]
theorem q_xor {x y : Int32} (hy : 0 ≤ y) : 0 ≤ x ^^^ y ↔ 0 ≤ x := by
  rw [q_sgn, q_sgn, Int32.toBitVec_xor, BitVec.msb_xor, (q_sgn y).mp hy, Bool.xor_false]
theorem q_entry {e : Nat} (h0 : 0 < e) (he : e ≤ 4) {en tab : Nat → Int32} (ht : ∀ j, j < e → tab j = en j) (x : Int32) : ∃ j, j < e ∧ f_X4_entryFor x (nI e) en = some (en j) ∧ f_X8_entry x (nI e) tab = some (en j) := by
  have hrm : g_rm x (nI e) = some (x % nI e) := by
    unfold g_rm; rw [if_neg (nI_ne0 h0 (by omega)), irem_eq_mod]
  have hr : (x % nI e).toInt = x.toInt.tmod e := by rw [Int32.toInt_mod, nI_toInt (by omega)]
  have hlt : x.toInt.tmod e < e := Int.tmod_lt_of_pos _ (by omega)
  have hgt : -(e : Int) < x.toInt.tmod e := Int.lt_tmod_of_pos x.toInt (show (0 : Int) < e by omega)
  unfold f_X4_entryFor f_J9_floorMod_7cf53 f_X8_entry
  rw [if_neg (nI_nle h0 (by omega)), q_bind hrm, q_bind hrm]
  have hz : (0 : Int32).toInt = 0 := by decide
  by_cases hx : 0 ≤ x
  · have hx' : 0 ≤ x.toInt := by have := Int32.le_iff_toInt_le.mp hx; rw [hz] at this; exact this
    have hn : 0 ≤ x.toInt.tmod e := Int.tmod_nonneg _ hx'
    have hj : x % nI e = nI (x.toInt.tmod e).toNat := Int32.toInt_inj.mp (by rw [hr, nI_toInt (by omega)]; omega)
    refine ⟨(x.toInt.tmod e).toNat, by omega, ?_, ?_⟩
    · rw [if_pos ((q_xor (nI_pos' (by omega))).mpr hx), hj, q_bind rfl, q_bind (q_rd (by omega) (by omega))]
    · rw [hj, if_pos (nI_pos' (by omega)), q_bind (q_rd (by omega) (by omega)), ht _ (by omega)]
  · have hx' : x.toInt < 0 := by
      have := fun (q : (0 : Int32).toInt ≤ x.toInt) => hx (Int32.le_iff_toInt_le.mpr q)
      rw [hz] at this; exact Int.not_le.mp this
    have hn : x.toInt.tmod e ≤ 0 := by
      have h2 := Int.tmod_nonneg (a := -x.toInt) (e : Int) (by omega)
      rw [Int.neg_tmod] at h2; omega
    rw [if_neg (fun q => hx ((q_xor (nI_pos' (by omega))).mp q))]
    by_cases h1 : x.toInt.tmod e = 0
    · have hj : x % nI e = 0 := Int32.toInt_inj.mp (by rw [hr, h1]; rfl)
      refine ⟨0, h0, ?_, ?_⟩
      · rw [if_pos hj, hj, q_bind rfl, q_bind (show g_rd 4 en 0 = some (en 0) from q_rd (k := 0) (by omega) (by omega))]
      · rw [hj, if_pos (by decide), q_bind (show g_rd 4 tab 0 = some (tab 0) from q_rd (k := 0) (by omega) (by omega)), ht 0 h0]
    · have hne : ¬ x % nI e = 0 := fun q => h1 (by rw [← hr, q]; rfl)
      have hneg : ¬ 0 ≤ x % nI e := fun q => by
        have := Int32.le_iff_toInt_le.mp q
        rw [hr, hz] at this; omega
      have hj : x % nI e + nI e = nI (x.toInt.tmod e + e).toNat := Int32.toInt_inj.mp (by
        rw [Int32.toInt_add, hr, nI_toInt (by omega), nI_toInt (by omega), Int.bmod_eq_of_le (by omega) (by omega)]; omega)
      refine ⟨(x.toInt.tmod e + e).toNat, by omega, ?_, ?_⟩
      · rw [if_neg hne, hj, q_bind rfl, q_bind (q_rd (by omega) (by omega))]
      · rw [if_neg hneg, hj, q_bind (q_rd (by omega) (by omega)), ht _ (by omega)]
theorem q_val {t : Nat} (ht : t < 11) (o : Int32) {rg re : Nat → Int32} (hr : ∀ q, q < 6 * (t + 1) → rg q = re q) : ∃ v, f_X2_valueOf (nI t) o rg = some v ∧ (isOpd o → f_X8_valueOf o (nI (t + 1)) re = some v) := by
  obtain ⟨k, hk, e⟩ := pk_andE o (m := 7) 3 (by decide)
  unfold f_X2_valueOf f_X8_valueOf f_X8_isNumber
  rw [e, nI_pred, q_m6, q_6m, nI_add]
  by_cases h6 : k < 6
  · refine ⟨rg (6 * t + k), ?_, fun _ => ?_⟩
    · rw [if_neg (show ¬ 6 ≤ nI k from nI_ge (b := 6) h6 (by omega)), q_bind (q_rd (by omega) (by omega))]
    · rw [if_neg (show ¬ nI k = 7 from fun q => by have := (nI_eq (b := 7) (by omega) (by omega)).mp q; omega), q_bind rfl, if_pos rfl, q_bind (q_rd (by omega) (by omega)), hr _ (by omega)]
  · refine ⟨_, if_pos (show 6 ≤ nI k from nI_le (a := 6) (by omega) (by omega)), fun ho => ?_⟩
    obtain ⟨k', h1, h2, h3⟩ := ho
    rw [e] at h3
    have : k = k' := (nI_eq (by omega) (by omega)).mp h3
    rw [if_pos (show nI k = 7 from by rw [show k = 7 by omega]; rfl)]
    rfl
/-- the program that is run, as the reference holds it -/
def QP (x1 : Int32) (n : Nat) (ln : Nat → Nat) (F len nlen first anew : Nat → Int32) : Prop :=
  (x1 = 0 ∧ n ≤ 6 ∧ (∀ f, f < n → len f = nI (ln f)) ∧ ∀ f, f < n → ∀ i, i < ln f → ∀ w, w < 6 → first (96 * f + 6 * i + w) = F (96 * f + 6 * i + w)) ∨
  (x1 = 1 ∧ n ≤ 12 ∧ (∀ f, f < n → nlen f = nI (ln f)) ∧ ∀ f, f < n → ∀ i, i < ln f → ∀ w, w < 6 → anew (96 * f + 6 * i + w) = F (96 * f + 6 * i + w))
theorem QP.le {x1 : Int32} {n : Nat} {ln : Nat → Nat} {F len nlen first anew : Nat → Int32} (h : QP x1 n ln F len nlen first anew) : n ≤ 12 := by
  rcases h with h | h
  · have := h.2.1; omega
  · exact h.2.1
theorem q_src {β : Type} {x1 : Int32} {n : Nat} {ln : Nat → Nat} {F len nlen first anew : Nat → Int32} {K : Int32 → Option β} (h : QP x1 n ln F len nlen first anew) {f i w p : Nat} (hf : f < n) (hi : i < ln f) (hl : ln f ≤ 16) (hw : w < 6) (hp : p = 96 * f + 6 * i + w) :
    (if x1 = 0 then (g_rd 576 first (nI p)).bind K else (g_rd 1152 anew (nI p)).bind K) = K (F p) := by
  rcases h with ⟨rfl, hn, _, h⟩ | ⟨rfl, hn, _, h⟩
  · rw [if_pos rfl, q_bind (q_rd (by omega) (by omega)), hp, h f hf i hi w hw]
  · rw [if_neg (by decide), q_bind (q_rd (by omega) (by omega)), hp, h f hf i hi w hw]
theorem q_len {β : Type} {x1 : Int32} {n : Nat} {ln : Nat → Nat} {F len nlen first anew : Nat → Int32} {K : Int32 → Option β} (h : QP x1 n ln F len nlen first anew) {f : Nat} (hf : f < n) :
    (if x1 = 0 then (g_rd 12 len (nI f)).bind K else (g_rd 12 nlen (nI f)).bind K) = K (nI (ln f)) := by
  rcases h with ⟨rfl, hn, h, _⟩ | ⟨rfl, hn, h, _⟩
  · rw [if_pos rfl, q_bind (q_rd (by omega) (by omega)), h f hf]
  · rw [if_neg (by decide), q_bind (q_rd (by omega) (by omega)), h f hf]
/-- the tallies of both agree -/
def TI (cc lv df ca la di : Nat → Int32) : Prop := (∀ f, f < 12 → cc f = ca f) ∧ (∀ q, q < 36 → lv q = la q) ∧ (∀ q, q < 36 → df q = di q) ∧ B01 36 di
theorem q_updE {f g : Nat → Int32} {q j : Nat} {v : Int32} (h : f j = g j) : upd f q v j = upd g q v j := by
  by_cases hj : j = q
  · subst hj; rw [q_upd_s, q_upd_s]
  · rw [q_upd_n hj, q_upd_n hj, h]
theorem TI_keep {cc lv df ca la di : Nat → Int32} {q : Nat} {v x : Int32} (h : TI cc lv df ca la di) (hx : di q = x) : TI cc (upd lv q v) df ca (upd la q v) (upd di q x) := by
  have e : upd di q x = di := by
    funext j
    by_cases hj : j = q
    · subst hj; rw [q_upd_s, hx]
    · rw [q_upd_n hj]
  rw [e]
  exact ⟨h.1, fun j hj => q_updE (h.2.1 j hj), h.2.2.1, h.2.2.2⟩
theorem TI_one {cc lv df ca la di : Nat → Int32} {q : Nat} {v : Int32} (h : TI cc lv df ca la di) : TI cc (upd lv q v) (upd df q 1) ca (upd la q v) (upd di q 1) := by
  refine ⟨h.1, fun j hj => q_updE (h.2.1 j hj), fun j hj => q_updE (h.2.2.1 j hj), fun j hj => ?_⟩
  by_cases e : j = q
  · subst e; rw [q_upd_s]; exact Or.inr rfl
  · rw [q_upd_n e]; exact h.2.2.2 j hj
theorem q_note {f k : Nat} (hf : f < 12) (hk : k < 3) {cc lv df ca la di : Nat → Int32} (h : TI cc lv df ca la di) (v : Int32) : ∃ lv' df' la' di', TI cc lv' df' ca la' di' ∧ f_X8_note (nI f) (nI k) v ca la di = some (la', di') ∧
    ∀ (N b n : Nat) (row : Nat → Int32), b + k < 66 → row (b + k) = v → f_X6_addCall_3 N (nI f) (nI b) row (n + 1) (nI k) cc lv df = f_X6_addCall_3 N (nI f) (nI b) row n (nI (k + 1)) cc lv' df' := by
  have hd := h.2.2.2 (3 * f + k) (by omega)
  have hc := h.1 f hf
  have hl := h.2.1 (3 * f + k) (by omega)
  have key : ∀ (N b n : Nat) (row : Nat → Int32), b + k < 66 → row (b + k) = v → f_X6_addCall_3 N (nI f) (nI b) row (n + 1) (nI k) cc lv df = if ca f ≤ 0 then f_X6_addCall_3 N (nI f) (nI b) row n (nI (k + 1)) cc (upd lv (3 * f + k) v) df else if la (3 * f + k) = v then f_X6_addCall_3 N (nI f) (nI b) row n (nI (k + 1)) cc (upd lv (3 * f + k) v) df else f_X6_addCall_3 N (nI f) (nI b) row n (nI (k + 1)) cc (upd lv (3 * f + k) v) (upd df (3 * f + k) 1) := by
    intro N b n row hb hv
    rw [f_X6_addCall_3, if_neg (show ¬ 3 ≤ nI k from nI_ge (b := 3) hk (by omega)), nI_add, q_bind (q_rd hb (by omega)), hv, q_bind (q_rd hf (by omega)), hc, q_3m, nI_add, nI_1]
    by_cases h1 : ca f ≤ 0
    · rw [if_pos h1, if_pos h1, q_bind (q_wr (by omega) (by omega))]
    · rw [if_neg h1, if_neg h1, q_bind (q_rd (by omega) (by omega)), hl]
      by_cases h2 : la (3 * f + k) = v
      · rw [if_pos h2, if_pos h2, q_bind (q_wr (by omega) (by omega))]
      · rw [if_neg h2, if_neg h2, q_bind (q_wz (by omega) (by omega) (Or.inr rfl)), q_bind (q_wr (by omega) (by omega))]
  unfold f_X8_note
  rw [q_m3, nI_add, q_bind (q_rd (by omega) (by omega))]
  by_cases hz : di (3 * f + k) = 0
  · rw [if_pos hz, q_bind (q_rd hf (by omega))]
    by_cases h1 : ca f ≤ 0
    · rw [if_pos h1, q_bind (q_wz (by omega) (by omega) (Or.inl rfl)), q_bind (q_wr (by omega) (by omega))]
      exact ⟨_, _, _, _, TI_keep h hz, rfl, fun N b n row hb hv => by rw [key N b n row hb hv, if_pos h1]⟩
    · rw [if_neg h1, q_bind (q_rd (by omega) (by omega))]
      by_cases h2 : la (3 * f + k) = v
      · rw [if_pos h2, q_bind (q_wz (by omega) (by omega) (Or.inl rfl)), q_bind (q_wr (by omega) (by omega))]
        exact ⟨_, _, _, _, TI_keep h hz, rfl, fun N b n row hb hv => by rw [key N b n row hb hv, if_neg h1, if_pos h2]⟩
      · rw [if_neg h2, q_bind (q_wz (by omega) (by omega) (Or.inr rfl)), q_bind (q_wr (by omega) (by omega))]
        exact ⟨_, _, _, _, TI_one h, rfl, fun N b n row hb hv => by rw [key N b n row hb hv, if_neg h1, if_neg h2]⟩
  · have h1' : di (3 * f + k) = 1 := hd.resolve_left hz
    rw [if_neg hz, q_bind (q_wz (by omega) (by omega) (Or.inr rfl)), q_bind (q_wr (by omega) (by omega))]
    by_cases h1 : ca f ≤ 0
    · exact ⟨_, _, _, _, TI_keep h h1', rfl, fun N b n row hb hv => by rw [key N b n row hb hv, if_pos h1]⟩
    · by_cases h2 : la (3 * f + k) = v
      · exact ⟨_, _, _, _, TI_keep h h1', rfl, fun N b n row hb hv => by rw [key N b n row hb hv, if_neg h1, if_pos h2]⟩
      · exact ⟨_, _, _, _, TI_one h, rfl, fun N b n row hb hv => by rw [key N b n row hb hv, if_neg h1, if_neg h2]⟩
/-- one call noted, on both sides -/
theorem q_tally1 {f k d p : Nat} (hf : f < 12) (hk : k < 3) (hd : d ≤ 10) {par re row : Nat → Int32} (hp : par f = nI p) (hp3 : p ≤ 3) (hrow : row (6 * d + k) = re (6 * d + k)) (hz : p ≤ k → re (6 * d + k) = 0) {cc lv df ca la di : Nat → Int32} (h : TI cc lv df ca la di) :
    ∃ lv' df' la' di', TI cc lv' df' ca la' di' ∧ (∀ (N n : Nat), f_X6_addCall_3 N (nI f) (nI (6 * d)) row (n + 1) (nI k) cc lv df = f_X6_addCall_3 N (nI f) (nI (6 * d)) row n (nI (k + 1)) cc lv' df') ∧
      ∀ (N n : Nat) (x1 x3 : Int32) (first anew at_ in_ ba : Nat → Int32), f_X8_begin_109 N x1 (nI f) x3 par first anew (n + 1) (nI k) (nI d) at_ in_ ba re ca la di = f_X8_begin_109 N x1 (nI f) x3 par first anew n (nI (k + 1)) (nI d) at_ in_ ba re ca la' di' := by
  obtain ⟨lv', df', la', di', h1, h2, h3⟩ := q_note hf hk h (re (6 * d + k))
  refine ⟨lv', df', la', di', h1, fun N n => h3 N _ n row (by omega) hrow, fun N n x1 x3 first anew at_ in_ ba => ?_⟩
  rw [f_X8_begin_109, if_neg (show ¬ 3 ≤ nI k from nI_ge (b := 3) hk (by omega)), q_bind (q_rd hf (by omega)), hp, nI_1]
  by_cases hpk : p ≤ k
  · rw [if_pos (nI_le hpk (by omega)), ← hz hpk, q_bind h2]
  · rw [if_neg (nI_ge (by omega) (by omega)), q_m6, nI_add, q_bind (q_rd (by omega) (by omega)), q_bind h2]
theorem q_tally {f d p : Nat} (hf : f < 12) (hd : d ≤ 10) {par re row : Nat → Int32} (hp : par f = nI p) (hp3 : p ≤ 3) (hrow : ∀ k, k < 3 → row (6 * d + k) = re (6 * d + k)) (hz : ∀ k, p ≤ k → k < 3 → re (6 * d + k) = 0) {cc lv df ca la di : Nat → Int32} (h : TI cc lv df ca la di) :
    ∃ cc' lv' df' ca' la' di', TI cc' lv' df' ca' la' di' ∧ (∀ N, 4 ≤ N → f_X6_addCall N (nI f) (nI (6 * d)) cc lv df row = some (cc', lv', df')) ∧
      ∀ (N n : Nat) (x1 x3 : Int32) (first anew at_ in_ ba : Nat → Int32), 4 ≤ n → f_X8_begin_109 N x1 (nI f) x3 par first anew n 0 (nI d) at_ in_ ba re ca la di = (g_wr 11 in_ (nI d) (nI f)).bind (fun s4 => (g_wr 11 at_ (nI d) 0).bind (fun s5 => if 0 ≤ x3 then if x1 = 0 then (g_rd 576 first (x3 + 1)).bind (fun v8 => (g_wr 11 ba (nI d) v8).bind (fun s9 => some (1, nI d + 1, s5, s4, s9, re, ca', la', di'))) else (g_rd 1152 anew (x3 + 1)).bind (fun v10 => (g_wr 11 ba (nI d) v10).bind (fun s11 => some (1, nI d + 1, s5, s4, s11, re, ca', la', di'))) else (g_wr 11 ba (nI d) 0).bind (fun s12 => some (1, nI d + 1, s5, s4, s12, re, ca', la', di')))) := by
  obtain ⟨lv1, df1, la1, di1, t1, a1, b1⟩ := q_tally1 (k := 0) hf (by omega) hd hp hp3 (hrow 0 (by omega)) (fun q => hz 0 q (by omega)) h
  obtain ⟨lv2, df2, la2, di2, t2, a2, b2⟩ := q_tally1 (k := 1) hf (by omega) hd hp hp3 (hrow 1 (by omega)) (fun q => hz 1 q (by omega)) t1
  obtain ⟨lv3, df3, la3, di3, t3, a3, b3⟩ := q_tally1 (k := 2) hf (by omega) hd hp hp3 (hrow 2 (by omega)) (fun q => hz 2 q (by omega)) t2
  have hcf := t3.1 f hf
  refine ⟨upd cc f (cc f + 1), lv3, df3, upd ca f (ca f + 1), la3, di3, ⟨fun g hg => ?_, t3.2⟩, fun N hN => ?_, fun N n x1 x3 first anew at_ in_ ba hn => ?_⟩
  · rw [hcf]; exact q_updE (t3.1 g hg)
  · obtain ⟨m, rfl⟩ : ∃ m, N = m + 1 + 1 + 1 + 1 := ⟨N - 4, by omega⟩
    unfold f_X6_addCall
    rw [show (0 : Int32) = nI 0 from rfl, a1, a2, a3, f_X6_addCall_3, if_pos (show 3 ≤ nI (2 + 1) by decide), q_bind (q_rd hf (by omega)), q_bind (q_wr hf (by omega))]
  · obtain ⟨m, rfl⟩ : ∃ m, n = m + 1 + 1 + 1 + 1 := ⟨n - 4, by omega⟩
    have e : f_X8_begin_109 N x1 (nI f) x3 par first anew (m + 1 + 1 + 1 + 1) 0 (nI d) at_ in_ ba re ca la di = f_X8_begin_109 N x1 (nI f) x3 par first anew (m + 1) (nI (2 + 1)) (nI d) at_ in_ ba re ca la3 di3 := by
      rw [show (0 : Int32) = nI 0 from rfl, b1, b2, b3]
    rw [e, f_X8_begin_109, if_pos (show 3 ≤ nI (2 + 1) by decide), q_bind (q_rd hf (by omega)), q_bind (q_wr hf (by omega))]
