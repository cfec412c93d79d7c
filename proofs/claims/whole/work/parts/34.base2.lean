/-! BASE 2: constructors -/
/-- the contract of a constructor: cells come, told by the list of their addresses -/
def g_Mc (l : Launch) (y : MethodName) (bytes : ByteArray) (maxL : Nat) (ret : Option FieldType) (rm : Room) (tA : Nat) (dC : Nat → ClassId) (dI : Nat → Nat → Nat) (cI cZ cJ : ClassId) (vs : List Value) (ws : va_W) (mk : List Nat → va_W) (mc ms : Nat) : Prop :=
  ∀ sz : Nat, Met l y (Cond.code y bytes maxL ret :: gw) rm (va_Pc vs (g_pre tA dC dI cI cZ cJ sz ws)) (va_Qv (fun (_ : List Nat) => True) (fun u t => g_post dC dI cI cZ cJ (va_A ws sz) (mk u) () t) (va_A ws sz)) mc ms (va_A ws sz)
def g_Qc (dC : Nat → ClassId) (dI : Nat → Nat → Nat) (cI cZ cJ : ClassId) (A : Nat → Prop) (mk : List Nat → va_W) : Array Value → State → Outcome → State → Prop := va_Qv (fun (_ : List Nat) => True) (fun u t => g_post dC dI cI cZ cJ A (mk u) () t) A
section GC
variable {p : Program} {l : Launch} {e : Env} {R : Room} {s : State} {m : MethodId} {args : Array Value} {below : List Frame} {meth : Method} {c : Code} {H : Heap} {locs : List Loc} {cells slots : Nat} {Q : State → Prop}
variable {cc : ByteArray} {maxL : Nat} {ret : Option FieldType} {own : String} {tA : Nat} {dC : Nat → ClassId} {dI : Nat → Nat → Nat} {cI cZ cJ : ClassId} {A : Nat → Prop} {ws : va_W} {a pc : Nat} {ls : Array Slot} {rest : List Value}
theorem gs_objI (hC : g_C p s m meth c args cc maxL ret own) {idx : Nat} (hlink : Cond.methodLink own idx Lib.objectInit ∈ gw) (hinst : Cond.instanceMethod Lib.objectInit ∈ gw) (hcode : Cond.code Lib.objectInit ⟨#[0xb1]⟩ 1 none ∈ gw) (hls : ls.size = maxL) (hd : decode cc pc = .ok (.invokespecial idx, 3)) (hframes : 1 ≤ R.frames) (hlocals : (rest.map fun v => v.category).sum + 12 ≤ R.locals)
    (kk : W p l e R s m args below meth c H locs cells slots Q (F0 m (pc + 3) ls rest)) : W p l e R s m args below meth c H locs cells slots Q (F0 m pc ls (.ref a :: rest)) := by
  have hts := hC.2.2.2.2.2.1
  refine W.objInit hC.1 hC.2.1 hC.2.2.2.2.1 (hts _ hlink) (hts _ hinst) (hts _ hcode) rfl (by rw [hC.2.2.2.1]; exact hls) rfl hd hframes ?_ ?_
  · simpa [JFrame.monitorRoom] using hlocals
  · exact W.eq (g2 := F0 m (pc + 3) ls rest) rfl kk
theorem gs_new (hC : g_C p s m meth c args cc maxL ret own) (hW : g_W tA dC dI cI cZ cJ A s H locs ws) {C : String} {T : u_T} {N ci index : Nat} (hin : ∀ w ∈ u_ws C T N, w ∈ gw) {ty : Nat → FieldType} (hty : ∀ k, k < N → parseFieldDescriptor (T k).2.2.1 = some (ty k)) (hcl : Cond.classLink own index C ∈ gw) (hinst : Cond.instantiable C N ∈ gw) (hini : Cond.initialized C ∈ gw) (hc : vwCl[ci]? = some (C, T, N)) {fs : List Value} (hfs : ∀ j, j < N → defaultValue (ty j) = vp_V fs j) (hcells : cells + 1 ≤ R.cells) (hslots : slots + N ≤ R.slots) (hdg : decode cc pc = .ok (.new index, 3))
    (kk : ∀ (q : Nat) (H : Heap), g_W tA dC dI cI cZ cJ A s H locs (ws ++ [(q, .inr (ci, fs))]) → W p l e R s m args below meth c H locs (cells + 1) (slots + N) Q (F0 m (pc + 3) ls (.ref q :: rest))) : W p l e R s m args below meth c H locs cells slots Q (F0 m pc ls rest) := by
  have hts := hC.2.2.2.2.2.1
  exact va_new hC.1 hC.2.1 hts hin ty hty hC.2.2.2.2.1 (hts _ hcl) (hts _ hinst) (hts _ hini) hW.1 hW.2.1 hW.2.2.1 hW.2.2.2.1 hW.2.2.2.2.1 hc hfs hcells hslots hdg (fun q H1 hP hD hS => kk q H1 ⟨hW.1, hP, hD, hS, hW.2.2.2.2⟩)
theorem gs_newI (hC : g_C p s m meth c args cc maxL ret own) (hW : g_W tA dC dI cI cZ cJ A s H locs ws) (harr : Cond.arrayClass .int ∈ gw) {n : Int32} {N : Nat} (hn : ¬ n < 0) (hN : n.toNatClampNeg = N) (hbytes : N * componentBytes .int ≤ 536870912) (hcells : cells + 1 ≤ R.cells) (hslots : slots + N ≤ R.slots) (hdg : decode cc pc = .ok (.newarray .int, 2))
    (kk : ∀ (q : Nat) (H : Heap), g_W tA dC dI cI cZ cJ A s H locs (ws ++ [(q, .inl (cI, N, .inl (fun _ => 0)))]) → W p l e R s m args below meth c H locs (cells + 1) (slots + N) Q (F0 m (pc + 2) ls (.ref q :: rest))) : W p l e R s m args below meth c H locs cells slots Q (F0 m pc ls (.int n :: rest)) := by
  refine va_newa (atype := .int) (ty := .int) (a0 := (N, .inl (fun _ => 0))) hC.1 hC.2.1 (hC.2.2.2.2.2.1 _ harr) rfl hW.1 hW.2.1 hW.2.2.1 hW.2.2.2.1 hW.2.2.2.2.1 (fun cA => rfl) hn hN hbytes hcells hslots hdg (fun q cA H1 hK hP hD hS => ?_)
  have e1 := (hK.2 3 (cA, .int) rfl).2
  have e2 := (hK.2 0 (cI, .int) rfl).2
  have e : cI = cA := Option.some.inj (e2.symm.trans e1)
  subst e
  exact kk q H1 ⟨hW.1, hP, hD, hS, hW.2.2.2.2⟩
theorem gs_newZ (hC : g_C p s m meth c args cc maxL ret own) (hW : g_W tA dC dI cI cZ cJ A s H locs ws) (harr : Cond.arrayClass .boolean ∈ gw) {n : Int32} {N : Nat} (hn : ¬ n < 0) (hN : n.toNatClampNeg = N) (hbytes : N * componentBytes .boolean ≤ 536870912) (hcells : cells + 1 ≤ R.cells) (hslots : slots + N ≤ R.slots) (hdg : decode cc pc = .ok (.newarray .boolean, 2))
    (kk : ∀ (q : Nat) (H : Heap), g_W tA dC dI cI cZ cJ A s H locs (ws ++ [(q, .inl (cZ, N, .inl (fun _ => 0)))]) → W p l e R s m args below meth c H locs (cells + 1) (slots + N) Q (F0 m (pc + 2) ls (.ref q :: rest))) : W p l e R s m args below meth c H locs cells slots Q (F0 m pc ls (.int n :: rest)) := by
  refine va_newa (atype := .boolean) (ty := .boolean) (a0 := (N, .inl (fun _ => 0))) hC.1 hC.2.1 (hC.2.2.2.2.2.1 _ harr) rfl hW.1 hW.2.1 hW.2.2.1 hW.2.2.2.1 hW.2.2.2.2.1 (fun cA => rfl) hn hN hbytes hcells hslots hdg (fun q cA H1 hK hP hD hS => ?_)
  have e1 := (hK.2 3 (cA, .boolean) rfl).2
  have e2 := (hK.2 1 (cZ, .boolean) rfl).2
  have e : cZ = cA := Option.some.inj (e2.symm.trans e1)
  subst e
  exact kk q H1 ⟨hW.1, hP, hD, hS, hW.2.2.2.2⟩
theorem gs_putF (hC : g_C p s m meth c args cc maxL ret own) (hin2 : meth.name = "<init>") (hW : g_W tA dC dI cI cZ cJ A s H locs ws) {C : String} {T : u_T} {N ci index : Nat} (hin : ∀ w ∈ u_ws C T N, w ∈ gw) {ty0 : Nat → FieldType} (hty : ∀ k, k < N → parseFieldDescriptor (T k).2.2.1 = some (ty0 k)) (hnm : ∀ a, a < N → ∀ b, b < N → a ≠ b → (T a).2.1 ≠ (T b).2.1) (q0 k : Nat) {fs : List Value} {ws' : va_W} {v : Value}
    (he : ws[q0]? = some (a, .inr (ci, fs))) (hc : vwCl[ci]? = some (C, T, N)) (hk : k < N) (hl : Cond.fieldLink own index (T k).1 (T k).2.1 (T k).2.2.1 ∈ gw) (hfin : (T k).2.2.2 = true) (hdecl : (T k).1 = own) (hn : narrow (ty0 k) v = v) (hfit : fits (ty0 k) v = true) (hlen : k < fs.length) (hset : ws.set q0 (a, .inr (ci, fs.set k v)) = ws') (hdg : decode cc pc = .ok (.putfield index, 3))
    (kk : ∀ (H : Heap) (locs : List Loc), g_W tA dC dI cI cZ cJ A s H locs ws' → W p l e R s m args below meth c H locs cells slots Q (F0 m (pc + 3) ls rest)) : W p l e R s m args below meth c H locs cells slots Q (F0 m pc ls (v :: .ref a :: rest)) := by
  subst hset
  exact va_putF hC.1 hC.2.1 hC.2.2.2.2.2.1 hin ty0 hty hnm hC.2.2.2.2.1 hW.1 hW.2.1 hW.2.2.1 hW.2.2.2.1 q0 he hc k hk (hC.2.2.2.2.2.1 _ hl) (fun _ h9 => h9) hfin hin2 hdecl (hty k hk) hn hfit hlen hdg (fun H1 locs1 hP hD hS => kk H1 locs1 ⟨hW.1, hP, hD, hS, hW.2.2.2.2⟩)
theorem gs_callC {y : MethodName} {bytes : ByteArray} {maxL' index n mc ms b : Nat} {rm : Room} {wc : va_W} {mk ws' : List Nat → va_W} {vs st0 : List Value} (hC : g_C p s m meth c args cc maxL ret own) (hW : g_W tA dC dI cI cZ cJ A s H locs ws) (hM : g_Mc l y bytes maxL' none rm tA dC dI cI cZ cJ (.ref b :: vs) wc mk mc ms) (hY : g_Y y bytes maxL' none n) (hlk : Cond.methodLink own index y ∈ gw) (hiv : Cond.instanceMethod y ∈ gw) (hy1 : y.name = "<init>") (hrm0 : rm.cells = mc ∧ rm.slots = ms) (hR9 : rm.frames + 1 ≤ R.frames ∧ 8 + (maxL' + 11) + rm.locals ≤ R.locals) (hls : ls.size = maxL)
    (isC isR pm : List Nat) (hn0 : va_nd isC = true) (hCC : isC.map (fun i => ws[i]?) = wc.map some) (hR : isR.map (fun i => ws[i]?) = (isR.filterMap (fun i => ws[i]?)).map some) (hn : va_nd isR = true) (hdis : ∀ i ∈ isR, i ∉ isC) (hn2 : va_nd pm = true) (hp : ∀ u, pm.map (fun i => (isR.filterMap (fun i => ws[i]?) ++ mk u)[i]?) = (ws' u).map some)
    (hlen : vs.length = n) (hst : st0 = vs.reverse ++ .ref b :: rest) (hrm : (rest.map fun v => v.category).sum ≤ 8) (hdg : decode cc pc = .ok (.invokespecial index, 3)) (hf : cells + mc ≤ R.cells ∧ slots + ms ≤ R.slots)
    (kk : ∀ (u : List Nat) (H : Heap) (locs : List Loc), g_W tA dC dI cI cZ cJ A s H locs (ws' u) → W p l e R s m args below meth c H locs (cells + mc) (slots + ms) Q (F0 m (pc + 3) ls rest)) : W p l e R s m args below meth c H locs cells slots Q (F0 m pc ls st0) := by
  have hF := va_free (wc := wc) hW.2.2.1 hW.2.2.2.1 hW.2.2.2.2.1 isC hCC
  have hts := hC.2.2.2.2.2.1
  refine va_callv (va_runI (As := vs) (rest := rest) ⟨hC.1, hC.2.1, hC.2.2.2.1, hC.2.2.2.2.1, hts⟩ (hM H.size) ⟨gc_B hts hY hlk hrm0.1 hrm0.2 hR9, hy1, hts _ hiv⟩ (gs_preS hW isC hn0 hCC (.ref b :: vs)) rfl hlen hls hst (lv_room hrm) hdg hf) hW.2.2.2.1 (fun q _ h => hF q h) hF (fun u t H1 locs1 ht hvm hv hB hz hk hS => ?_)
  exact kk u H1 locs1 (gs_back hW isC isR pm hCC hR hn hdis hn2 (hp u) ht hk hB hS)
theorem gs_rc {mk : List Nat → va_W} {mc ms : Nat} (u : List Nat) (hC : g_C p s m meth c args cc maxL none own) (hW : g_W tA dC dI cI cZ cJ A s H locs ws) (hw : ws = mk u) (h1 : cells = mc) (h2 : slots = ms) (hdg : decode cc pc = .ok (.return_, 1)) : W p l e R s m args below meth c H locs cells slots (MQ below (g_Qc dC dI cI cZ cJ A mk) args s mc ms A) (F0 m pc ls []) := by
  subst hw; subst h1; subst h2
  exact W.vret hC.1 hC.2.1 hC.2.2.1 (fun t ht hv => ⟨⟨u, rfl, trivial, by rw [ht]; exact hW.2.1, va_K.moved hv.alike hW.1, hW.2.2.1⟩, hW.2.2.2.1.F ht⟩) hW.2.2.2.1.2.2 hdg hC.2.2.2.2.2.2
end GC
theorem ge_c {l : Launch} {y : MethodName} {rm : Room} {tA : Nat} {dC : Nat → ClassId} {dI : Nat → Nat → Nat} {cI cZ cJ : ClassId} {vs : List Value} {ws : va_W} {mk : List Nat → va_W} {mc ms : Nat} {cc : ByteArray} {maxL : Nat} {ret : Option FieldType} (hy : plainName y.cls = true) (hy1 : y.name = "<init>") (hn : (lg_sl vs).length ≤ maxL)
    (body : ∀ (p : Program) (e : Env) (s : State) (m : MethodId) (below : List Frame) (meth : Method) (c : Code) (A : Nat → Prop) (H : Heap) (locs : List Loc) (ls : Array Slot), g_C p s m meth c vs.toArray cc maxL ret y.cls → meth.name = "<init>" → g_W tA dC dI cI cZ cJ A s H locs ws → lv_has ls maxL (lv_args 0 vs) →
      W p l e rm s m vs.toArray below meth c H locs 0 0 (MQ below (g_Qc dC dI cI cZ cJ A mk) vs.toArray s mc ms A) (F0 m 0 ls [])) : g_Mc l y cc maxL ret rm tA dC dI cI cZ cJ vs ws mk mc ms := by
  intro sz
  refine Met.ofW (cc := cc) (maxL := maxL) (ret := ret) hy rfl ?_
  intro p e s m args below meth c s₁ B hml hv
  obtain ⟨rfl, hsz, hP, hK, hD0, hG0⟩ := hv
  subst hsz
  rw [lg_entry_eq]
  exact body p e s m below meth c _ s.heap [] _ ⟨B.exec, B.bytes, B.returns, hml, findClass_of_methodNamed B.named, fun w hw => atoms_spec (ws := Cond.code y cc maxL ret :: gw) B.pre w (List.mem_cons_of_mem _ hw), B.notSynchronized⟩ (by rw [(name_of_methodNamed B.named B.method).1, hy1]) ⟨hK, hP, hD0.self (sz := s.heap.size), va_S.rf, fun q h => Or.inr h, hG0⟩ (lv_entry vs hn)
