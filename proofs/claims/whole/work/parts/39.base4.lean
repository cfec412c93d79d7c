/-! BASE 4: the law's own methods, which catch -/
abbrev g_IA : String := "java/lang/IllegalArgumentException"
abbrev g_IS : String := "java/lang/IllegalStateException"
abbrev g_IO : String := "java/lang/IndexOutOfBoundsException"
abbrev g_ncl : List (String × String) := [(g_IS, g_IA), (g_IO, g_IA), (g_IA, g_IS), (g_IO, g_IS), (g_IA, g_IO), (g_IS, g_IO)]
def g_NC (U : State) : Prop := ∀ q ∈ g_ncl, va_Nc q.1 q.2 U
theorem g_NC.moved {u U : State} (hv : u.vm.Alike U.vm) (h : g_NC u) : g_NC U := fun q hq => va_Nc.moved hv (h q hq)
def g_preL (tA : Nat) (dC : Nat → ClassId) (dI : Nat → Nat → Nat) (cI cZ cJ : ClassId) (sz : Nat) (ws : va_W) : State → Prop := fun U => g_preX tA dC dI cI cZ cJ sz ws U ∧ g_NC U
def g_ML (l : Launch) (y : MethodName) (bytes : ByteArray) (maxL : Nat) (ret : Option FieldType) (hh : List (Nat × Nat × Nat × Nat)) (rm : Room) (tA : Nat) (dC : Nat → ClassId) (dI : Nat → Nat → Nat) (cI cZ cJ : ClassId) (vs : List Value) (ws ws' : va_W) (r : Int32) : Prop :=
  ∀ sz : Nat, Met l y (Cond.codeWith y bytes maxL ret hh :: gw) rm (va_Pc vs (g_preL tA dC dI cI cZ cJ sz ws)) (g_Qi dC dI cI cZ cJ (va_A ws sz) ws' r) 1 6 (va_A ws sz)
/-- the number that the law gives what was thrown -/
def g_kk {α : Type} (names : List String) (o : α ⊕ String) : Int32 := match o with
  | .inl _ => 0
  | .inr E => nI (names.idxOf E + 1)
def g_wo {α : Type} (o : α ⊕ String) (w : α → va_W) (w0 : va_W) : va_W := match o with
  | .inl u => w u
  | .inr _ => w0
section GL
variable {p : Program} {l : Launch} {e : Env} {R : Room} {s : State} {m : MethodId} {args : Array Value} {below : List Frame} {meth : Method} {c : Code} {H : Heap} {locs : List Loc} {cells slots : Nat} {Q : State → Prop}
variable {cc : ByteArray} {maxL : Nat} {ret : Option FieldType} {own : String} {tA : Nat} {dC : Nat → ClassId} {dI : Nat → Nat → Nat} {cI cZ cJ : ClassId} {A : Nat → Prop} {ws : va_W} {a pc : Nat} {ls : Array Slot} {rest : List Value}
theorem gs_last (hC : g_C p s m meth c args cc maxL ret own) (hW : g_W tA dC dI cI cZ cJ A s H locs ws) (q0 : Nat) {f : Nat → Int64} {x : Int64} {ws' : va_W} (he : ws[q0]? = some (a, .inl (cJ, 1, .inr (.inl f)))) (hset : ws.set q0 (a, .inl (cJ, 1, .inr (.inl (vp_updL f 0 x)))) = ws') (hdg : decode cc pc = .ok (.lastore, 1))
    (kk : ∀ (H : Heap) (locs : List Loc), g_W tA dC dI cI cZ cJ A s H locs ws' → W p l e R s m args below meth c H locs cells slots Q (F0 m (pc + 1) ls rest)) : W p l e R s m args below meth c H locs cells slots Q (F0 m pc ls (.long x :: .int 0 :: .ref a :: rest)) := by
  subst hset
  exact va_last hC.1 hC.2.1 hW.1 hW.2.1 hW.2.2.1 hW.2.2.2.1 q0 2 he rfl (vp_in_nI (n := 0) (N := 1) (by decide) (by decide)) hdg (fun H1 locs1 hP hD hS => kk H1 locs1 ⟨hW.1, hP, hD, hS, hW.2.2.2.2⟩)
theorem gs_lald (hC : g_C p s m meth c args cc maxL ret own) (hW : g_W tA dC dI cI cZ cJ A s H locs ws) (q0 : Nat) {f : Nat → Int64} (he : ws[q0]? = some (a, .inl (cJ, 1, .inr (.inl f)))) (hdg : decode cc pc = .ok (.laload, 1))
    (kk : W p l e R s m args below meth c H locs cells slots Q (F0 m (pc + 1) ls (.long (f 0) :: rest))) : W p l e R s m args below meth c H locs cells slots Q (F0 m pc ls (.int 0 :: .ref a :: rest)) :=
  va_lald hC.1 hC.2.1 hW.1 hW.2.1 q0 2 he rfl (vp_in_nI (n := 0) (N := 1) (by decide) (by decide)) hdg kk
/-- a call of a method that may throw, by one that looks at both -/
theorem gs_callXL {OUT' : Type} {y : MethodName} {bytes : ByteArray} {maxL' index n b ci N : Nat} {ret' : Option FieldType} {rm : Room} {C : String} {T : u_T} {fs : List Value} {wc : va_W} {w1 : OUT' → va_W} {ws' : OUT' → va_W} {res' : OUT' → Int32} {o' : OUT' ⊕ String} {vs st0 : List Value}
    (hC : g_C p s m meth c args cc maxL ret own) (hW : g_W tA dC dI cI cZ cJ A s H locs ws) (hH : g_H A s s.heap) (hM : g_MX l y bytes maxL' ret' rm tA dC dI cI cZ cJ (.ref b :: vs) wc w1 res' o') (hY : g_Y y bytes maxL' ret' n) (hlk : Cond.methodLink own index y ∈ gw) (hiv : Cond.instanceMethod y ∈ gw ∧ Cond.selects C y y ∈ gw) (hrm0 : rm.cells = 1 ∧ rm.slots = 6) (hR9 : rm.frames + 1 ≤ R.frames ∧ 8 + (maxL' + 11) + rm.locals ≤ R.locals) (hls : ls.size = maxL) (q0 : Nat) (hc : vwCl[ci]? = some (C, T, N)) (he : ws[q0]? = some (b, .inr (ci, fs)))
    (isC isR pm : List Nat) (hn0 : va_nd isC = true) (hCC : isC.map (fun i => ws[i]?) = wc.map some) (hR : isR.map (fun i => ws[i]?) = (isR.filterMap (fun i => ws[i]?)).map some) (hn : va_nd isR = true) (hdis : ∀ i ∈ isR, i ∉ isC) (hn2 : va_nd pm = true) (hp : ∀ u, pm.map (fun i => (isR.filterMap (fun i => ws[i]?) ++ w1 u)[i]?) = (ws' u).map some) (hp0 : pm.map (fun i => (isR.filterMap (fun i => ws[i]?) ++ wc)[i]?) = ws.map some)
    (hlen : vs.length = n) (hst : st0 = vs.reverse ++ .ref b :: rest) (hrm : (rest.map fun v => v.category).sum ≤ 8) (hdg : decode cc pc = .ok (.invokevirtual index, 3)) (hf : 1 ≤ R.cells ∧ 6 ≤ R.slots)
    (kx : ∀ (E : String) (ce : Cell) (q9 : Addr) (H : Heap) (locs : List Loc), o' = .inr E → g_W tA dC dI cI cZ cJ A s H locs ws → H[q9]? = some ce → ce.vm = .none → s.vm.findClass E = some ce.cls → vx_W p l e R s m args below meth c H locs 1 6 Q (F0 m pc ls rest) q9)
    (kk : ∀ (u : OUT') (H : Heap) (locs : List Loc), o' = .inl u → g_W tA dC dI cI cZ cJ A s H locs (ws' u) → W p l e R s m args below meth c H locs 1 6 Q (F0 m (pc + 3) ls (.int (res' u) :: rest))) : W p l e R s m args below meth c H locs 0 0 Q (F0 m pc ls st0) := by
  have hF := va_free (wc := wc) hW.2.2.1 hW.2.2.2.1 hW.2.2.2.2.1 isC hCC
  refine vx_calli (vx_runV (As := vs) (rest := rest) ⟨hC.1, hC.2.1, hC.2.2.2.1, hC.2.2.2.2.1, hC.2.2.2.2.2.1⟩ (hM H.size) (gc_V hC.2.2.2.2.2.1 hY hlk hiv hrm0.1 hrm0.2 hR9) (gs_preVX hW hH isC hn0 hCC hc he) rfl hlen hls hst (lv_room hrm) hdg (by simpa using hf)) hW.2.2.2.1 (fun q _ h => hF q h) hF (fun q _ h => hF q h) (fun E ce q9 u t H1 locs1 ht hvm _ hB hz hk hS hce hcv hcl => ?_) (fun r u t H1 locs1 ht hvm hv hB hz hk hS => ?_)
  · obtain ⟨ho', hB⟩ := hB
    refine vx_widen (k := 1) (n := 6) (by simp) (by simp) ?_
    exact kx E ce q9 H1 locs1 ho' (gs_back hW isC isR pm hCC hR hn hdis hn2 hp0 ht hk hB hS) hce hcv hcl
  · obtain ⟨ho', rfl⟩ := hv
    refine W.cs (cells' := 1) (slots' := 6) (by simp) (by simp) ?_
    exact kk u H1 locs1 ho' (gs_back hW isC isR pm hCC hR hn hdis hn2 (hp u) ht hk hB hS)
theorem gs_catch {E name : String} {ce : Cell} {q : Addr} (hC : g_C p s m meth c args cc maxL ret own) (pre : List ExceptionTableEntry) (x : ExceptionTableEntry) (suf : List ExceptionTableEntry) (hsplit : c.exceptionTable.toList = pre ++ x :: suf)
    (hpass : ∀ z ∈ pre, z.catchType ≠ 0 ∧ ∃ nm : String, Cond.classLink own z.catchType nm ∈ gw ∧ va_Nc E nm s) (hx : covers x pc = true) (h0 : x.catchType ≠ 0) (hlink : Cond.classLink own x.catchType name ∈ gw) (hH : g_H A s s.heap) (hcast : Cond.castable E name ∈ g_cas) (hcell : H[q]? = some ce) (hv : ce.vm = .none) (hcl : s.vm.findClass E = some ce.cls)
    (kk : W p l e R s m args below meth c H locs cells slots Q (F0 m x.handlerPc ls [.ref q])) : vx_W p l e R s m args below meth c H locs cells slots Q (F0 m pc ls rest) q := by
  have hts := hC.2.2.2.2.2.1
  exact vx_catch hC.2.2.2.2.1 pre x suf hsplit (fun z hz => Or.inr ⟨(hpass z hz).1, let ⟨nm, h1, h2⟩ := (hpass z hz).2; ⟨nm, hts _ h1, h2⟩⟩) hx h0 (hts _ hlink) (va_Nw.use rfl (hH.2.2.2 _ hcast)) hcell hv hcl kk
end GL
theorem ge_L {l : Launch} {y : MethodName} {rm : Room} {tA : Nat} {dC : Nat → ClassId} {dI : Nat → Nat → Nat} {cI cZ cJ : ClassId} {vs : List Value} {ws ws' : va_W} {r : Int32} {cc : ByteArray} {maxL : Nat} {ret : Option FieldType} {hh : List (Nat × Nat × Nat × Nat)} (hy : plainName y.cls = true) (hn : (lg_sl vs).length ≤ maxL)
    (body : ∀ (p : Program) (e : Env) (s : State) (m : MethodId) (below : List Frame) (meth : Method) (c : Code) (A : Nat → Prop) (H : Heap) (locs : List Loc) (ls : Array Slot), g_C p s m meth c vs.toArray cc maxL ret y.cls → c.exceptionTable.toList = tableOf hh → g_H A s s.heap → g_NC s → g_W tA dC dI cI cZ cJ A s H locs ws → lv_has ls maxL (lv_args 0 vs) →
      W p l e rm s m vs.toArray below meth c H locs 0 0 (MQ below (g_Qi dC dI cI cZ cJ A ws' r) vs.toArray s 1 6 A) (F0 m 0 ls [])) : g_ML l y cc maxL ret hh rm tA dC dI cI cZ cJ vs ws ws' r := by
  intro sz
  refine va_MetW (cc := cc) (maxL := maxL) (ret := ret) (hh := hh) hy rfl ?_
  intro p e s m args below meth c s₁ B hml hv
  obtain ⟨rfl, ⟨⟨hsz, hP, hK, hD0, hG0⟩, hH0⟩, hN0⟩ := hv
  subst hsz
  rw [lg_entry_eq]
  have hall := atoms_spec (ws := Cond.codeWith y cc maxL ret hh :: gw) B.pre
  exact body p e s m below meth c _ s.heap [] _ ⟨B.exec, B.bytes, B.returns, hml, findClass_of_methodNamed B.named, fun w hw => hall w (List.mem_cons_of_mem _ hw), B.notSynchronized⟩ (vx_table (x := y) B (hall _ List.mem_cons_self)) hH0 hN0 ⟨hK, hP, hD0.self (sz := s.heap.size), va_S.rf, fun q h => Or.inr h, hG0⟩ (lv_entry vs hn)
