/-! BASE 5: the law's body -/
def g_p {α β : Type} (o : α ⊕ String) (f : α → β) (d : β) : β := match o with
  | .inl u => f u
  | .inr _ => d
theorem g_sc {i k L : Nat} (h : i + k < L) (hL : L ≤ 448) : vp_in (nI i + nI k) L := by rw [nI_add]; exact vp_in_nI h (by omega)
theorem g_sc0 {i L : Nat} (h : i < L) (hL : L ≤ 448) : vp_in (nI i) L := vp_in_nI h (by omega)
theorem g_cmp (x : Int64) : lg_cmp x x = 0 := by simp [lg_cmp]
theorem g_resI {α : Type} {names : List String} {o : α ⊕ String} {fo : Nat → Int64} {f : α → Int32} {b : Int32} (h : ∀ u, o = .inl u → f u = b) (hk : g_kk names o = 0) (hl : names.length ≤ 8) : g_p o (fun u => vp_updL fo 0 (f u).toInt64) fo 0 = b.toInt64 := by
  cases o with
  | inl u =>
    have e := h u rfl
    subst e
    simp [g_p, vp_updL]
  | inr E =>
    have h1 : names.idxOf E ≤ names.length := List.idxOf_le_length
    exact absurd hk (nI_ne0 (by omega) (by omega))
theorem g_resZ {α : Type} {names : List String} {o : α ⊕ String} {fo : Nat → Int64} {f : α → Int32} {b : Int32} (h : ∀ u, o = .inl u → f u = b) (hk : g_kk names o = 0) (hl : names.length ≤ 8) : g_p o (fun u => vp_updL fo 0 (if f u = 0 then 0 else 1)) fo 0 = if b = 0 then 0 else 1 := by
  cases o with
  | inl u =>
    have e := h u rfl
    subst e
    simp [g_p, vp_updL]
  | inr E =>
    have h1 : names.idxOf E ≤ names.length := List.idxOf_le_length
    exact absurd hk (nI_ne0 (by omega) (by omega))
section GW
variable {p : Program} {l : Launch} {e : Env} {R : Room} {s : State} {m : MethodId} {args : Array Value} {below : List Frame} {meth : Method} {c : Code} {H : Heap} {locs : List Loc} {cells slots : Nat} {Q : State → Prop}
variable {cc : ByteArray} {maxL : Nat} {ret : Option FieldType} {own : String} {tA : Nat} {dC : Nat → ClassId} {dI : Nat → Nat → Nat} {cI cZ cJ : ClassId} {A : Nat → Prop} {ws : va_W} {a pc : Nat} {ls : Array Slot} {rest : List Value}
theorem gs_perm {ws' : va_W} (hW : g_W tA dC dI cI cZ cJ A s H locs ws) (pm : List Nat) (hn2 : va_nd pm = true) (hp : pm.map (fun i => ws[i]?) = ws'.map some) : g_W tA dC dI cI cZ cJ A s H locs ws' := by
  obtain ⟨h1, h2⟩ := gs_sub hW pm hn2 hp
  exact ⟨hW.1, h1, h2, hW.2.2.2⟩
theorem gs_newJ (hC : g_C p s m meth c args cc maxL ret own) (hW : g_W tA dC dI cI cZ cJ A s H locs ws) (harr : Cond.arrayClass .long ∈ gw) {n : Int32} {N : Nat} (hn : ¬ n < 0) (hN : n.toNatClampNeg = N) (hbytes : N * componentBytes .long ≤ 536870912) (hcells : cells + 1 ≤ R.cells) (hslots : slots + N ≤ R.slots) (hdg : decode cc pc = .ok (.newarray .long, 2))
    (kk : ∀ (q : Nat) (H : Heap), g_W tA dC dI cI cZ cJ A s H locs (ws ++ [(q, .inl (cJ, N, .inr (.inl (fun _ => 0))))]) → W p l e R s m args below meth c H locs (cells + 1) (slots + N) Q (F0 m (pc + 2) ls (.ref q :: rest))) : W p l e R s m args below meth c H locs cells slots Q (F0 m pc ls (.int n :: rest)) := by
  refine va_newa (atype := .long) (ty := .long) (a0 := (N, .inr (.inl (fun _ => 0)))) hC.1 hC.2.1 (hC.2.2.2.2.2.1 _ harr) rfl hW.1 hW.2.1 hW.2.2.1 hW.2.2.2.1 hW.2.2.2.2.1 (fun cA => rfl) hn hN hbytes hcells hslots hdg (fun q cA H1 hK hP hD hS => ?_)
  have e1 := (hK.2 3 (cA, .long) rfl).2
  have e2 := (hK.2 2 (cJ, .long) rfl).2
  have e : cJ = cA := Option.some.inj (e2.symm.trans e1)
  subst e
  exact kk q H1 ⟨hW.1, hP, hD, hS, hW.2.2.2.2⟩
theorem gs_preSL {wc : va_W} (hW : g_W tA dC dI cI cZ cJ A s H locs ws) (hH : g_H A s s.heap) (hN : g_NC s) (isC : List Nat) (hn : va_nd isC = true) (hC : isC.map (fun i => ws[i]?) = wc.map some) (vs : List Value) : PreS s H (va_Pc vs (g_preL tA dC dI cI cZ cJ H.size wc)) vs := by
  obtain ⟨h1, h3⟩ := gs_preS hW isC hn hC vs
  refine ⟨fun a U g mk q => ?_, fun U hU hw => ⟨(h3 U hU hw).1, ⟨(h3 U hU hw).2, ?_⟩, hN.moved hw.alike⟩⟩
  · obtain ⟨q0, ⟨q1, q2⟩, q3⟩ := q
    exact ⟨(h1 a U g mk ⟨q0, q1⟩).1, ⟨(h1 a U g mk ⟨q0, q1⟩).2, g_H.same (u := U) (U := U.calling g mk a) rfl q2⟩, g_NC.moved (u := U) (U := U.calling g mk a) (Vm.Alike.refl U.vm) q3⟩
  · rw [hU]
    exact g_H.on hw hW.2.2.2.1.2.1 (va_free (wc := wc) hW.2.2.1 hW.2.2.2.1 hW.2.2.2.2.1 isC hC) hH
def g_YL (y : MethodName) (bytes : ByteArray) (maxL : Nat) (ret : Option FieldType) (hh : List (Nat × Nat × Nat × Nat)) (n : Nat) : Prop :=
  Cond.codeWith y bytes maxL ret hh ∈ gw ∧ Cond.initialized y.cls ∈ gw ∧ Cond.static y ∈ gw ∧ y.cls ≠ "java/lang/invoke/MethodHandle" ∧ y.cls ≠ "java/lang/invoke/VarHandle" ∧ (parseMethodDescriptor y.desc).map (fun d => d.parameters.length) = some n
theorem gs_callL {y : MethodName} {bytes : ByteArray} {maxL' index n : Nat} {ret' : Option FieldType} {hh : List (Nat × Nat × Nat × Nat)} {rm : Room} {wc w1 ws' : va_W} {vs st0 : List Value} {r : Int32} (hC : g_C p s m meth c args cc maxL ret own) (hW : g_W tA dC dI cI cZ cJ A s H locs ws) (hH : g_H A s s.heap) (hN : g_NC s) (hM : g_ML l y bytes maxL' ret' hh rm tA dC dI cI cZ cJ vs wc w1 r) (hY : g_YL y bytes maxL' ret' hh n) (hlk : Cond.methodLink own index y ∈ gw) (hrm0 : rm.cells = 1 ∧ rm.slots = 6) (hR9 : rm.frames + 1 ≤ R.frames ∧ 8 + (maxL' + 11) + rm.locals ≤ R.locals) (hls : ls.size = maxL)
    (isC isR pm : List Nat) (hn0 : va_nd isC = true) (hCC : isC.map (fun i => ws[i]?) = wc.map some) (hR : isR.map (fun i => ws[i]?) = (isR.filterMap (fun i => ws[i]?)).map some) (hn : va_nd isR = true) (hdis : ∀ i ∈ isR, i ∉ isC) (hn2 : va_nd pm = true) (hp : pm.map (fun i => (isR.filterMap (fun i => ws[i]?) ++ w1)[i]?) = ws'.map some)
    (hlen : vs.length = n) (hst : st0 = vs.reverse ++ rest) (hrm : (rest.map fun v => v.category).sum ≤ 8) (hdg : decode cc pc = .ok (.invokestatic index, 3)) (hf : cells + 1 ≤ R.cells ∧ slots + 6 ≤ R.slots)
    (kk : ∀ (H : Heap) (locs : List Loc), g_W tA dC dI cI cZ cJ A s H locs ws' → W p l e R s m args below meth c H locs (cells + 1) (slots + 6) Q (F0 m (pc + 3) ls (.int r :: rest))) : W p l e R s m args below meth c H locs cells slots Q (F0 m pc ls st0) := by
  have hF := va_free (wc := wc) hW.2.2.1 hW.2.2.2.1 hW.2.2.2.2.1 isC hCC
  have hts := hC.2.2.2.2.2.1
  obtain ⟨y1, y2, y3, y4⟩ := hY
  have hG : GoodIn gw (va_wsS own index y (Cond.codeWith y bytes maxL' ret' hh :: gw)) := fun w hw => by
    have hm : w ∈ gw := by
      rcases List.mem_append.mp hw with h | h
      · rcases (by simpa using h : w = _ ∨ w = _ ∨ w = _) with rfl | rfl | rfl
        · exact hlk
        · exact y3
        · exact y2
      · rcases List.mem_cons.mp h with rfl | h
        · exact y1
        · exact h
    exact ⟨hm, gw_good (c := .tt) hm⟩
  refine va_calli (vx_runSW (As := vs) (rest := rest) ⟨hC.1, hC.2.1, hC.2.2.2.1, hC.2.2.2.2.1, hts⟩ (hM H.size) (vx_cwSW n hts hG rfl hrm0.1 hrm0.2 y4 hR9) (gs_preSL hW hH hN isC hn0 hCC vs) rfl hlen hls hst (lv_room hrm) hdg hf) hW.2.2.2.1 (fun q _ h => hF q h) hF (fun v u t H1 locs1 ht hvm hv hB hz hk hS => ?_)
  obtain rfl := hv
  exact kk H1 locs1 (gs_back hW isC isR pm hCC hR hn hdis hn2 hp ht hk hB hS)
end GW
/-- the list with the places isC blotted out -/
def g_mask (isC : List Nat) : Nat → va_W → List (Option (Nat × va_E))
  | _, [] => []
  | k, q :: l => (if isC.contains k then none else some q) :: g_mask isC (k + 1) l
theorem g_mask_at {isC : List Nat} : ∀ (l : va_W) (k i : Nat), (g_mask isC k l)[i]? = l[i]?.map (fun q => if isC.contains (k + i) then none else some q)
  | [], _, _ => by simp [g_mask]
  | q :: l, k, 0 => by simp [g_mask]
  | q :: l, k, i + 1 => by
    simp only [g_mask, List.getElem?_cons_succ]
    rw [g_mask_at l (k + 1) i, show k + 1 + i = k + (i + 1) by omega]
theorem g_mask_eq {isC : List Nat} {ws ws' : va_W} (h : g_mask isC 0 ws = g_mask isC 0 ws') {i : Nat} (hi : i ∉ isC) : ws'[i]? = ws[i]? := by
  have h1 := g_mask_at (isC := isC) ws 0 i
  have h2 := g_mask_at (isC := isC) ws' 0 i
  rw [h, h2] at h1
  have hc : isC.contains (0 + i) = false := by simpa using hi
  simp only [hc, Bool.false_eq_true, if_false] at h1
  cases ha : ws[i]? with
  | none => rw [ha] at h1; cases hb : ws'[i]? with
    | none => rfl
    | some q => rw [hb] at h1; cases h1
  | some q => rw [ha] at h1; cases hb : ws'[i]? with
    | none => rw [hb] at h1; cases h1
    | some q' => rw [hb] at h1; simp only [Option.map_some, Option.some.injEq] at h1; rw [h1]
section GW2
variable {p : Program} {l : Launch} {e : Env} {R : Room} {s : State} {m : MethodId} {args : Array Value} {below : List Frame} {meth : Method} {c : Code} {H : Heap} {locs : List Loc} {cells slots : Nat} {Q : State → Prop}
variable {cc : ByteArray} {maxL : Nat} {ret : Option FieldType} {own : String} {tA : Nat} {dC : Nat → ClassId} {dI : Nat → Nat → Nat} {cI cZ cJ : ClassId} {A : Nat → Prop} {ws : va_W} {a pc : Nat} {ls : Array Slot} {rest : List Value}
theorem g_map_at {isC : List Nat} {ws wc : va_W} (h : isC.map (fun i => ws[i]?) = wc.map some) {j : Nat} {q : Nat × va_E} (hq : wc[j]? = some q) : ∃ i, isC[j]? = some i ∧ ws[i]? = some q := by
  have h1 : (isC.map (fun i => ws[i]?))[j]? = some (some q) := by rw [h]; simp [hq]
  rw [List.getElem?_map] at h1
  cases hi : isC[j]? with
  | none => rw [hi] at h1; cases h1
  | some i => rw [hi] at h1; exact ⟨i, rfl, by simpa using h1⟩
theorem g_map_in {isC : List Nat} {ws wc : va_W} (h : isC.map (fun i => ws[i]?) = wc.map some) {i : Nat} (hi : i ∈ isC) : ∃ (j : Nat) (q : Nat × va_E), isC[j]? = some i ∧ wc[j]? = some q ∧ ws[i]? = some q := by
  obtain ⟨j, hj⟩ := List.getElem?_of_mem hi
  have h1 : (isC.map (fun i => ws[i]?))[j]? = some (ws[i]?) := by rw [List.getElem?_map, hj]; rfl
  rw [h, List.getElem?_map] at h1
  cases hw : wc[j]? with
  | none => rw [hw] at h1; cases h1
  | some q => rw [hw] at h1; exact ⟨j, q, hj, hw, by simpa using h1.symm⟩
theorem gs_back2 {wc w1 ws' : va_W} {H1 : Heap} {locs1 : List Loc} {t : State} (hW : g_W tA dC dI cI cZ cJ A s H locs ws) (isC : List Nat) (hC : isC.map (fun i => ws[i]?) = wc.map some) (hC1 : isC.map (fun i => ws'[i]?) = w1.map some) (hm : g_mask isC 0 ws = g_mask isC 0 ws')
    (ht : t.heap = H1) (hk : ∀ q : Nat, q < H.size → ¬ va_A wc H.size q → H1[q]? = H[q]?) (hB : g_post dC dI cI cZ cJ (va_A wc H.size) w1 () t) (hS : va_S A s.heap H1 locs1) : g_W tA dC dI cI cZ cJ A s H1 locs1 ws' := by
  obtain ⟨hP1, hK1, hD1⟩ := hB
  rw [ht] at hP1
  have hF := va_free (wc := wc) hW.2.2.1 hW.2.2.2.1 hW.2.2.2.2.1 isC hC
  have hnot : ∀ (i : Nat) (q : Nat × va_E), i ∉ isC → ws[i]? = some q → ¬ va_A wc H.size q.1 := by
    rintro i q hi hq (⟨j, e9, hj⟩ | hge)
    · obtain ⟨i', h1, h2⟩ := g_map_at hC hj
      have := hW.2.2.1.1 i i' q (q.1, e9) hq h2 rfl
      subst this
      exact hi (List.mem_of_getElem? h1)
    · exact absurd (hW.2.1 i q hq).lt (Nat.not_lt.mpr hge)
  refine ⟨hW.1, fun k q hq => ?_, ⟨fun i j p9 q hi hj hpq => ?_, fun k q hq => ?_⟩, hS, hW.2.2.2.2⟩
  · by_cases hi : k ∈ isC
    · obtain ⟨j, q', h1, h2, h3⟩ := g_map_in hC1 hi
      rw [hq] at h3
      cases h3
      exact hP1 j q h2
    · have h1 := (g_mask_eq hm hi).symm.trans hq
      exact (hW.2.1 k q h1).kept (hk _ (hW.2.1 k q h1).lt (hnot k q hi h1))
  · by_cases h1 : i ∈ isC
    · obtain ⟨a1, q1, e1, e2, e3⟩ := g_map_in hC1 h1
      rw [hi] at e3; cases e3
      by_cases h2 : j ∈ isC
      · obtain ⟨a2, q2, f1, f2, f3⟩ := g_map_in hC1 h2
        rw [hj] at f3; cases f3
        have := hD1.1 a1 a2 _ _ e2 f2 hpq
        subst this
        rw [e1] at f1
        exact Option.some.inj f1
      · have h3 := (g_mask_eq hm h2).symm.trans hj
        exact absurd (by rw [← hpq]; exact hD1.2 a1 _ e2) (hnot j q h2 h3)
    · have h3 := (g_mask_eq hm h1).symm.trans hi
      by_cases h2 : j ∈ isC
      · obtain ⟨a2, q2, f1, f2, f3⟩ := g_map_in hC1 h2
        rw [hj] at f3; cases f3
        exact absurd (by rw [hpq]; exact hD1.2 a2 _ f2) (hnot i p9 h1 h3)
      · exact hW.2.2.1.1 i j p9 q h3 ((g_mask_eq hm h2).symm.trans hj) hpq
  · by_cases hi : k ∈ isC
    · obtain ⟨j, q', h1, h2, h3⟩ := g_map_in hC1 hi
      rw [hq] at h3; cases h3
      exact hF _ (hD1.2 j q h2)
    · exact hW.2.2.1.2 k q ((g_mask_eq hm hi).symm.trans hq)
theorem gs_callL2 {y : MethodName} {bytes : ByteArray} {maxL' index n : Nat} {ret' : Option FieldType} {hh : List (Nat × Nat × Nat × Nat)} {rm : Room} {wc w1 ws' : va_W} {vs st0 : List Value} {r : Int32} (hC : g_C p s m meth c args cc maxL ret own) (hW : g_W tA dC dI cI cZ cJ A s H locs ws) (hH : g_H A s s.heap) (hN : g_NC s) (hM : g_ML l y bytes maxL' ret' hh rm tA dC dI cI cZ cJ vs wc w1 r) (hY : g_YL y bytes maxL' ret' hh n) (hlk : Cond.methodLink own index y ∈ gw) (hrm0 : rm.cells = 1 ∧ rm.slots = 6) (hR9 : rm.frames + 1 ≤ R.frames ∧ 8 + (maxL' + 11) + rm.locals ≤ R.locals) (hls : ls.size = maxL)
    (isC : List Nat) (hn0 : va_nd isC = true) (hCC : isC.map (fun i => ws[i]?) = wc.map some) (hC1 : isC.map (fun i => ws'[i]?) = w1.map some) (hm : g_mask isC 0 ws = g_mask isC 0 ws')
    (hlen : vs.length = n) (hst : st0 = vs.reverse ++ rest) (hrm : (rest.map fun v => v.category).sum ≤ 8) (hdg : decode cc pc = .ok (.invokestatic index, 3)) (hf : cells + 1 ≤ R.cells ∧ slots + 6 ≤ R.slots)
    (kk : ∀ (H : Heap) (locs : List Loc), g_W tA dC dI cI cZ cJ A s H locs ws' → W p l e R s m args below meth c H locs (cells + 1) (slots + 6) Q (F0 m (pc + 3) ls (.int r :: rest))) : W p l e R s m args below meth c H locs cells slots Q (F0 m pc ls st0) := by
  have hF := va_free (wc := wc) hW.2.2.1 hW.2.2.2.1 hW.2.2.2.2.1 isC hCC
  have hts := hC.2.2.2.2.2.1
  obtain ⟨y1, y2, y3, y4⟩ := hY
  have hG : GoodIn gw (va_wsS own index y (Cond.codeWith y bytes maxL' ret' hh :: gw)) := fun w hw => by
    have hm : w ∈ gw := by
      rcases List.mem_append.mp hw with h | h
      · rcases (by simpa using h : w = _ ∨ w = _ ∨ w = _) with rfl | rfl | rfl
        · exact hlk
        · exact y3
        · exact y2
      · rcases List.mem_cons.mp h with rfl | h
        · exact y1
        · exact h
    exact ⟨hm, gw_good (c := .tt) hm⟩
  refine va_calli (vx_runSW (As := vs) (rest := rest) ⟨hC.1, hC.2.1, hC.2.2.2.1, hC.2.2.2.2.1, hts⟩ (hM H.size) (vx_cwSW n hts hG rfl hrm0.1 hrm0.2 y4 hR9) (gs_preSL hW hH hN isC hn0 hCC vs) rfl hlen hls hst (lv_room hrm) hdg hf) hW.2.2.2.1 (fun q _ h => hF q h) hF (fun v u t H1 locs1 ht hvm hv hB hz hk hS => ?_)
  obtain rfl := hv
  exact kk H1 locs1 (gs_back2 hW isC hCC hC1 hm ht hk hB hS)
theorem gs_callVi2 {y : MethodName} {bytes : ByteArray} {maxL' index n : Nat} {ret' : Option FieldType} {rm : Room} {C : String} {wc w1 ws' : va_W} {vs st0 : List Value} {r : Int32} {b ci N : Nat} {T : u_T} {fs : List Value} (hC : g_C p s m meth c args cc maxL ret own) (hW : g_W tA dC dI cI cZ cJ A s H locs ws) (hM : g_Mi l y bytes maxL' ret' rm tA dC dI cI cZ cJ (.ref b :: vs) wc w1 r) (hY : g_Y y bytes maxL' ret' n) (hlk : Cond.methodLink own index y ∈ gw) (hiv : Cond.instanceMethod y ∈ gw ∧ Cond.selects C y y ∈ gw) (hrm0 : rm.cells = 0 ∧ rm.slots = 0) (hR9 : rm.frames + 1 ≤ R.frames ∧ 8 + (maxL' + 11) + rm.locals ≤ R.locals) (hls : ls.size = maxL) (q0 : Nat) (hc : vwCl[ci]? = some (C, T, N)) (he : ws[q0]? = some (b, .inr (ci, fs)))
    (isC : List Nat) (hn0 : va_nd isC = true) (hCC : isC.map (fun i => ws[i]?) = wc.map some) (hC1 : isC.map (fun i => ws'[i]?) = w1.map some) (hm : g_mask isC 0 ws = g_mask isC 0 ws')
    (hlen : vs.length = n) (hst : st0 = vs.reverse ++ .ref b :: rest) (hrm : (rest.map fun v => v.category).sum ≤ 8) (hdg : decode cc pc = .ok (.invokevirtual index, 3)) (hf : cells ≤ R.cells ∧ slots ≤ R.slots)
    (kk : ∀ (H : Heap) (locs : List Loc), g_W tA dC dI cI cZ cJ A s H locs ws' → W p l e R s m args below meth c H locs cells slots Q (F0 m (pc + 3) ls (.int r :: rest))) : W p l e R s m args below meth c H locs cells slots Q (F0 m pc ls st0) := by
  have hF := va_free (wc := wc) hW.2.2.1 hW.2.2.2.1 hW.2.2.2.2.1 isC hCC
  refine va_calli (va_runV (As := vs) (rest := rest) ⟨hC.1, hC.2.1, hC.2.2.2.1, hC.2.2.2.2.1, hC.2.2.2.2.2.1⟩ (hM H.size) (gc_V hC.2.2.2.2.2.1 hY hlk hiv hrm0.1 hrm0.2 hR9) (gs_preV hW isC hn0 hCC hc he) rfl hlen hls hst (lv_room hrm) hdg hf) hW.2.2.2.1 (fun q _ h => hF q h) hF (fun v u t H1 locs1 ht hvm hv hB hz hk hS => ?_)
  obtain rfl := hv
  exact kk H1 locs1 (gs_back2 hW isC hCC hC1 hm ht hk hB hS)
theorem gs_callVv2 {y : MethodName} {bytes : ByteArray} {maxL' index n : Nat} {ret' : Option FieldType} {rm : Room} {C : String} {wc w1 ws' : va_W} {vs st0 : List Value} {b ci N : Nat} {T : u_T} {fs : List Value} (hC : g_C p s m meth c args cc maxL ret own) (hW : g_W tA dC dI cI cZ cJ A s H locs ws) (hM : g_Mv l y bytes maxL' ret' rm tA dC dI cI cZ cJ (.ref b :: vs) wc w1) (hY : g_Y y bytes maxL' ret' n) (hlk : Cond.methodLink own index y ∈ gw) (hiv : Cond.instanceMethod y ∈ gw ∧ Cond.selects C y y ∈ gw) (hrm0 : rm.cells = 0 ∧ rm.slots = 0) (hR9 : rm.frames + 1 ≤ R.frames ∧ 8 + (maxL' + 11) + rm.locals ≤ R.locals) (hls : ls.size = maxL) (q0 : Nat) (hc : vwCl[ci]? = some (C, T, N)) (he : ws[q0]? = some (b, .inr (ci, fs)))
    (isC : List Nat) (hn0 : va_nd isC = true) (hCC : isC.map (fun i => ws[i]?) = wc.map some) (hC1 : isC.map (fun i => ws'[i]?) = w1.map some) (hm : g_mask isC 0 ws = g_mask isC 0 ws')
    (hlen : vs.length = n) (hst : st0 = vs.reverse ++ .ref b :: rest) (hrm : (rest.map fun v => v.category).sum ≤ 8) (hdg : decode cc pc = .ok (.invokevirtual index, 3)) (hf : cells ≤ R.cells ∧ slots ≤ R.slots)
    (kk : ∀ (H : Heap) (locs : List Loc), g_W tA dC dI cI cZ cJ A s H locs ws' → W p l e R s m args below meth c H locs cells slots Q (F0 m (pc + 3) ls rest)) : W p l e R s m args below meth c H locs cells slots Q (F0 m pc ls st0) := by
  have hF := va_free (wc := wc) hW.2.2.1 hW.2.2.2.1 hW.2.2.2.2.1 isC hCC
  refine va_callv (va_runV (As := vs) (rest := rest) ⟨hC.1, hC.2.1, hC.2.2.2.1, hC.2.2.2.2.1, hC.2.2.2.2.2.1⟩ (hM H.size) (gc_V hC.2.2.2.2.2.1 hY hlk hiv hrm0.1 hrm0.2 hR9) (gs_preV hW isC hn0 hCC hc he) rfl hlen hls hst (lv_room hrm) hdg hf) hW.2.2.2.1 (fun q _ h => hF q h) hF (fun u t H1 locs1 ht hvm hv hB hz hk hS => ?_)
  exact kk H1 locs1 (gs_back2 hW isC hCC hC1 hm ht hk hB hS)
end GW2
abbrev wL (cI cZ cJ : ClassId) (a_t : Nat) (a_tb : Nat) (a_tb_parameterCounts : Nat) (a_tb_lengths : Nat) (a_tb_fields : Nat) (a_tb_entries : Nat) (a_ta : Nat) (a_ta_parameterCounts : Nat) (a_ta_lengths : Nat) (a_ta_fields : Nat) (a_ta_entries : Nat) (a_tk : Nat) (a_tk_comeTo : Nat) (a_tk_any : Nat) (a_tk_numbers : Nat) (a_tf : Nat) (a_tfr : Nat) (a_tfr_any : Nat) (a_tfr_numbers : Nat) (a_tf_isWaiting : Nat) (a_tf_waiting : Nat) (a_tg : Nat) (a_ty : Nat) (a_ty_outputValues : Nat) (a_ty_callCounts : Nat) (a_ty_latestValues : Nat) (a_ty_differing : Nat) (a_th : Nat) (a_th_inputs : Nat) (a_th_openFunctions : Nat) (a_th_openStatements : Nat) (a_th_registers : Nat) (a_old : Nat) (a_m : Nat) (a_m_parameters : Nat) (a_m_length : Nat) (a_m_newLength : Nat) (a_m_first : Nat) (a_m_now : Nat) (a_m_anew : Nat) (a_m_table : Nat) (a_m_inputs : Nat) (a_m_met : Nat) (a_m_any : Nat) (a_m_number : Nat) (a_m_outAny : Nat) (a_m_out : Nat) (a_m_at : Nat) (a_m_in : Nat) (a_m_back : Nat) (a_m_register : Nat) (a_m_output : Nat) (a_m_calls : Nat) (a_m_latest : Nat) (a_m_differ : Nat) (a_o : Nat) (t_analysed : Int32) (tb_functionCount : Int32) (tb_entryCount : Int32) (tb_parameterCounts : Nat → Int32) (tb_lengths : Nat → Int32) (tb_fields : Nat → Int32) (tb_entries : Nat → Int32) (ta_functionCount : Int32) (ta_entryCount : Int32) (ta_parameterCounts : Nat → Int32) (ta_lengths : Nat → Int32) (ta_fields : Nat → Int32) (ta_entries : Nat → Int32) (tk_comeTo : Nat → Int32) (tk_any : Nat → Int32) (tk_numbers : Nat → Int32) (tf_waitingCount : Int32) (tfr_any : Nat → Int32) (tfr_numbers : Nat → Int32) (tf_isWaiting : Nat → Int32) (tf_waiting : Nat → Int32) (ty_doneCount : Int32) (ty_outputCount : Int32) (ty_outputValues : Nat → Int32) (ty_callCounts : Nat → Int32) (ty_latestValues : Nat → Int32) (ty_differing : Nat → Int32) (th_inputCount : Int32) (th_inputsRead : Int32) (th_openCount : Int32) (th_inputs : Nat → Int32) (th_openFunctions : Nat → Int32) (th_openStatements : Nat → Int32) (th_registers : Nat → Int32) (m_code : Int32) (m_own : Int32) (m_count : Int32) (m_tableSize : Int32) (m_given : Int32) (m_known : Int32) (m_news : Int32) (m_depth : Int32) (m_steps : Int32) (m_taken : Int32) (m_shown : Int32) (m_outcome : Int32) (m_parameters : Nat → Int32) (m_length : Nat → Int32) (m_newLength : Nat → Int32) (m_first : Nat → Int32) (m_now : Nat → Int32) (m_anew : Nat → Int32) (m_table : Nat → Int32) (m_inputs : Nat → Int32) (m_met : Nat → Int32) (m_any : Nat → Int32) (m_number : Nat → Int32) (m_outAny : Nat → Int32) (m_out : Nat → Int32) (m_at : Nat → Int32) (m_in : Nat → Int32) (m_back : Nat → Int32) (m_register : Nat → Int32) (m_output : Nat → Int32) (m_calls : Nat → Int32) (m_latest : Nat → Int32) (m_differ : Nat → Int32) (fo : Nat → Int64) : va_W := [(a_t, .inr (7, [.ref a_tb, .ref a_ta, .ref a_tk, .ref a_tf, .ref a_tg, .ref a_ty, .ref a_th, .int t_analysed])), (a_tb, .inr (4, [.int tb_functionCount, .int tb_entryCount, .ref a_tb_parameterCounts, .ref a_tb_lengths, .ref a_tb_fields, .ref a_tb_entries])), (a_tb_parameterCounts, .inl (cI, 12, .inl tb_parameterCounts)), (a_tb_lengths, .inl (cI, 12, .inl tb_lengths)), (a_tb_fields, .inl (cI, 1152, .inl tb_fields)), (a_tb_entries, .inl (cI, 4, .inl tb_entries)), (a_ta, .inr (4, [.int ta_functionCount, .int ta_entryCount, .ref a_ta_parameterCounts, .ref a_ta_lengths, .ref a_ta_fields, .ref a_ta_entries])), (a_ta_parameterCounts, .inl (cI, 12, .inl ta_parameterCounts)), (a_ta_lengths, .inl (cI, 12, .inl ta_lengths)), (a_ta_fields, .inl (cI, 1152, .inl ta_fields)), (a_ta_entries, .inl (cI, 4, .inl ta_entries)), (a_tk, .inr (1, [.ref a_tk_comeTo, .ref a_tk_any, .ref a_tk_numbers])), (a_tk_comeTo, .inl (cZ, 204, .inl tk_comeTo)), (a_tk_any, .inl (cZ, 1224, .inl tk_any)), (a_tk_numbers, .inl (cI, 1224, .inl tk_numbers)), (a_tf, .inr (0, [.ref a_ta, .ref a_tk, .ref a_tfr, .ref a_tf_isWaiting, .ref a_tf_waiting, .int tf_waitingCount])), (a_tfr, .inr (5, [.ref a_tfr_any, .ref a_tfr_numbers])), (a_tfr_any, .inl (cZ, 6, .inl tfr_any)), (a_tfr_numbers, .inl (cI, 6, .inl tfr_numbers)), (a_tf_isWaiting, .inl (cZ, 204, .inl tf_isWaiting)), (a_tf_waiting, .inl (cI, 204, .inl tf_waiting)), (a_tg, .inr (3, [.ref a_ta, .ref a_tk])), (a_ty, .inr (6, [.int ty_doneCount, .int ty_outputCount, .ref a_ty_outputValues, .ref a_ty_callCounts, .ref a_ty_latestValues, .ref a_ty_differing])), (a_ty_outputValues, .inl (cI, 40, .inl ty_outputValues)), (a_ty_callCounts, .inl (cI, 12, .inl ty_callCounts)), (a_ty_latestValues, .inl (cI, 36, .inl ty_latestValues)), (a_ty_differing, .inl (cZ, 36, .inl ty_differing)), (a_th, .inr (2, [.ref a_old, .ref a_ty, .ref a_th_inputs, .int th_inputCount, .int th_inputsRead, .ref a_th_openFunctions, .ref a_th_openStatements, .ref a_th_registers, .int th_openCount])), (a_th_inputs, .inl (cI, 12, .inl th_inputs)), (a_th_openFunctions, .inl (cI, 11, .inl th_openFunctions)), (a_th_openStatements, .inl (cI, 11, .inl th_openStatements)), (a_th_registers, .inl (cI, 66, .inl th_registers)), (a_m, .inr (8, [.int m_code, .int m_own, .int m_count, .ref a_m_parameters, .ref a_m_length, .ref a_m_newLength, .ref a_m_first, .ref a_m_now, .ref a_m_anew, .int m_tableSize, .ref a_m_table, .int m_given, .ref a_m_inputs, .int m_known, .ref a_m_met, .ref a_m_any, .ref a_m_number, .int m_news, .ref a_m_outAny, .ref a_m_out, .int m_depth, .int m_steps, .int m_taken, .int m_shown, .ref a_m_at, .ref a_m_in, .ref a_m_back, .ref a_m_register, .ref a_m_output, .ref a_m_calls, .ref a_m_latest, .ref a_m_differ, .int m_outcome])), (a_m_parameters, .inl (cI, 12, .inl m_parameters)), (a_m_length, .inl (cI, 12, .inl m_length)), (a_m_newLength, .inl (cI, 12, .inl m_newLength)), (a_m_first, .inl (cI, 576, .inl m_first)), (a_m_now, .inl (cI, 1152, .inl m_now)), (a_m_anew, .inl (cI, 1152, .inl m_anew)), (a_m_table, .inl (cI, 4, .inl m_table)), (a_m_inputs, .inl (cI, 12, .inl m_inputs)), (a_m_met, .inl (cZ, 204, .inl m_met)), (a_m_any, .inl (cZ, 1224, .inl m_any)), (a_m_number, .inl (cI, 1224, .inl m_number)), (a_m_outAny, .inl (cZ, 6, .inl m_outAny)), (a_m_out, .inl (cI, 6, .inl m_out)), (a_m_at, .inl (cI, 11, .inl m_at)), (a_m_in, .inl (cI, 11, .inl m_in)), (a_m_back, .inl (cI, 11, .inl m_back)), (a_m_register, .inl (cI, 66, .inl m_register)), (a_m_output, .inl (cI, 40, .inl m_output)), (a_m_calls, .inl (cI, 12, .inl m_calls)), (a_m_latest, .inl (cI, 36, .inl m_latest)), (a_m_differ, .inl (cZ, 36, .inl m_differ)), (a_o, .inl (cJ, 1, .inr (.inl fo)))]
