abbrev g_str : List (Nat × String) := [(64, "a function has 0 to 3 parameters"), (73, "main has no parameters"), (81, "there are 6 functions"), (90, "no such function"), (93, "no such operation or register"), (107, "an operand or X does not fit the operation"), (112, "the function has 16 statements"), (125, "the table has 4 functions"), (136, "0 to 6 copies may be made"), (138, "there is no main"), (172, "nothing is known"), (216, "no such function, place or register"), (174, "no such function or statement"), (176, "a statement has the fields 0 to 5"), (181, "0 to 3000 statements may be run"), (183, "there is no new program"), (195, "no such output"), (200, "functions are 0 to 11"), (208, "no such function or parameter")]
/-! BASE 3: throws -/
def g_xn : List String := ["java/lang/RuntimeException", "java/lang/Exception"]
def g_cas : List Cond := [.castable "java/lang/IllegalArgumentException" "java/lang/IllegalArgumentException", .castable "java/lang/IllegalStateException" "java/lang/IllegalStateException", .castable "java/lang/IndexOutOfBoundsException" "java/lang/IndexOutOfBoundsException"]
theorem g_cas_on {w : Cond} (h : w ∈ g_cas) : w.onTables = true := by
  rcases (by simpa [g_cas] using h : w = _ ∨ w = _ ∨ w = _) with rfl | rfl | rfl <;> rfl
theorem g_cast {C T : String} {s U : State} (hv : s.vm.Alike U.vm) (h : va_Nw (.castable C T) s) : va_Nw (.castable C T) U := by
  obtain ⟨c, t, h1, h2, h3⟩ := Cond.castable_spec h
  show (Cond.castable C T).before #[] U = true
  simp [Cond.before, Cond.holds, Cond.value, hv.findClass, h1, h2, hv.assignable, h3]
theorem g_cas_mv {w : Cond} (h : w ∈ g_cas) {s U : State} (hv : s.vm.Alike U.vm) (hZ : va_Nw w s) : va_Nw w U := by
  rcases (by simpa [g_cas] using h : w = _ ∨ w = _ ∨ w = _) with rfl | rfl | rfl <;> exact g_cast hv hZ
/-- what a throw asks of the start -/
def g_H (A : Nat → Prop) (U : State) (H : Heap) : Prop :=
  vx_Zq Bundle.tN "UNASSIGNED_STACK" Bundle.steD A U H ∧ vx_Zq Bundle.tN "SUPPRESSED_SENTINEL" Bundle.listD A U H ∧ (∀ q ∈ g_str, ∃ sa : Nat, vk_R RX7 q.1 q.2 sa U) ∧ ∀ w ∈ g_cas, va_Nw w U
theorem g_H.same {A : Nat → Prop} {u U : State} {H : Heap} (hv : u.vm = U.vm) (h : g_H A u H) : g_H A U H :=
  ⟨vx_Zq.moved (hv ▸ Vm.Alike.refl u.vm) h.1, vx_Zq.moved (hv ▸ Vm.Alike.refl u.vm) h.2.1, fun q hq => let ⟨sa, ha⟩ := h.2.2.1 q hq; ⟨sa, vk_R.same hv.symm ha⟩, fun w hw => va_Nw.same (g_cas_on hw) hv (h.2.2.2 w hw)⟩
theorem g_H.on {A B : Nat → Prop} {u U : State} {H H1 : Heap} (hW : u.WarmedH U.vm) (hq : ∀ a : Nat, a < H.size → ¬ A a → H1[a]? = H[a]?) (hAB : ∀ q, B q → A q) (h : g_H A u H) : g_H B U H1 :=
  ⟨((h.1.kept hq).narrow hAB).moved hW.alike, ((h.2.1.kept hq).narrow hAB).moved hW.alike, fun q hq => let ⟨sa, ha⟩ := h.2.2.1 q hq; ⟨sa, vk_R.warm hW ha⟩, fun w hw => g_cas_mv hw hW.alike (h.2.2.2 w hw)⟩
def g_preX (tA : Nat) (dC : Nat → ClassId) (dI : Nat → Nat → Nat) (cI cZ cJ : ClassId) (sz : Nat) (ws : va_W) : State → Prop := fun U => g_pre tA dC dI cI cZ cJ sz ws U ∧ g_H (va_A ws sz) U U.heap
def g_Qx {OUT : Type} (dC : Nat → ClassId) (dI : Nat → Nat → Nat) (cI cZ cJ : ClassId) (A : Nat → Prop) (ws' : OUT → va_W) (res : OUT → Int32) (o : OUT ⊕ String) : Array Value → State → Outcome → State → Prop := va_Qi (fun r (u : OUT) => o = .inl u ∧ r = res u) (fun u t => g_post dC dI cI cZ cJ A (ws' u) () t) A
def g_Xx {OUT : Type} (dC : Nat → ClassId) (dI : Nat → Nat → Nat) (cI cZ cJ : ClassId) (A : Nat → Prop) (ws : va_W) (o : OUT ⊕ String) : String → State → State → Prop := vx_X (fun (_ : Unit) => True) (fun E _ t => o = .inr E ∧ g_post dC dI cI cZ cJ A ws () t) A
/-- the contract of a method that answers an int or throws, with nothing changed when it throws -/
def g_MX {OUT : Type} (l : Launch) (y : MethodName) (bytes : ByteArray) (maxL : Nat) (ret : Option FieldType) (rm : Room) (tA : Nat) (dC : Nat → ClassId) (dI : Nat → Nat → Nat) (cI cZ cJ : ClassId) (vs : List Value) (ws : va_W) (ws' : OUT → va_W) (res : OUT → Int32) (o : OUT ⊕ String) : Prop :=
  ∀ sz : Nat, vx_Met l y (Cond.code y bytes maxL ret :: gw) rm (va_Pc vs (g_preX tA dC dI cI cZ cJ sz ws)) (g_Qx dC dI cI cZ cJ (va_A ws sz) ws' res o) (g_Xx dC dI cI cZ cJ (va_A ws sz) ws o) 1 6 (va_A ws sz)
def g_E (ik ic : Nat) (cls : String) : Prop :=
  Bundle.fit cls = true ∧ (∀ n ∈ g_xn, Bundle.fit n = true) ∧ Cond.classLink RX7 ik cls ∈ gw ∧ Cond.initialized cls ∈ gw ∧ (vx_atS RX7 ic cls g_xn).all (fun w => decide (w ∈ lw_tbl) && (goodWord w || g_isN w || decide (w ∈ g_cas))) = true ∧ ∀ w ∈ Cond.classLink RX7 ik cls :: Cond.initialized cls :: vx_atS RX7 ic cls g_xn, vx_ot w = true
/-- what was thrown in a called method goes on, or what it answered is used -/
def g_cs {α β : Type} (o : α ⊕ String) (k : α → Option (β ⊕ String)) : Option (β ⊕ String) := match o with
  | .inl u => k u
  | .inr E => some (.inr E)
section GX
variable {p : Program} {l : Launch} {e : Env} {R : Room} {s : State} {m : MethodId} {args : Array Value} {below : List Frame} {meth : Method} {c : Code} {H : Heap} {locs : List Loc} {cells slots : Nat} {Q : State → Prop}
variable {cc : ByteArray} {maxL : Nat} {ret : Option FieldType} {own : String} {tA : Nat} {dC : Nat → ClassId} {dI : Nat → Nat → Nat} {cI cZ cJ : ClassId} {A : Nat → Prop} {ws : va_W} {a pc : Nat} {ls : Array Slot} {rest : List Value}
theorem gx_at {own : String} {ic : Nat} {cls : String} {names : List String} (h : (vx_atS own ic cls names).all (fun w => decide (w ∈ lw_tbl) && (goodWord w || g_isN w || decide (w ∈ g_cas))) = true) (hts : ∀ w ∈ gw, w.before args s = true) (hn : ∀ w ∈ gn, va_Nw w s) (hk : ∀ w ∈ g_cas, va_Nw w s) : ∀ w ∈ vx_atS own ic cls names, w.before args s = true := by
  intro w hw
  have h1 := List.all_eq_true.mp h w hw
  simp only [Bool.and_eq_true, decide_eq_true_eq, Bool.or_eq_true] at h1
  rcases h1.2 with (h2 | h2) | h2
  · exact hts w (List.mem_filter.mpr ⟨h1.1, h2⟩)
  · have h3 : w ∈ gn := List.mem_filter.mpr ⟨h1.1, h2⟩
    exact va_Nw.use (gn_on h3) (hn w h3)
  · exact va_Nw.use (g_cas_on h2) (hk w h2)
theorem gs_throw {OUT : Type} {o : OUT ⊕ String} {Qc : Array Value → State → Outcome → State → Prop} {ws0 : va_W} {ik ic is : Nat} {cls text : String} (hC : g_C p s m meth c args cc maxL ret RX7) (hW : g_W tA dC dI cI cZ cJ A s H locs ws) (hH : g_H A s s.heap) (hlt : l.stackTraces = false) (hxt : ∀ x ∈ c.exceptionTable.toList, False) (hE : g_E ik ic cls) (hs : (is, text) ∈ g_str) (hw : ws = ws0) (ho : o = .inr cls) (hls : ls.size = maxL)
    (d0 : decode cc pc = .ok (.new ik, 3)) (d3 : decode cc (pc + 3) = .ok (.dup, 1)) (d4 : decode cc (pc + 4) = .ok (.ldc is, 2)) (d6 : decode cc (pc + 6) = .ok (.invokespecial ic, 3)) (d9 : decode cc (pc + 9) = .ok (.athrow, 1)) (hR1 : 5 < R.frames) (hR2 : (rest.map fun v => v.category).sum + 82 ≤ R.locals) (hR3 : 1 ≤ R.cells) (hR4 : 6 ≤ R.slots) :
    W p l e R s m args below meth c H locs 0 0 (vx_MQ below Qc (g_Xx dC dI cI cZ cJ A ws0 o) args s 1 6 A) (F0 m pc ls rest) := by
  subst hw
  obtain ⟨e1, e2, e3, e4, e5, e6⟩ := hE
  obtain ⟨sa, hsa⟩ := hH.2.2.1 _ hs
  have hts := hC.2.2.2.2.2.1
  refine vx_throwS hC.1 hC.2.1 hlt hC.2.2.2.2.1 e1 e2 (hts _ e3) (hts _ e4) hsa (gx_at e5 hts hW.2.2.2.2.2.2.2 hH.2.2.2) e6 hH.1 hH.2.1 hW.2.2.2.1 (by rw [hC.2.2.2.1]; exact hls) d0 d3 d4 d6 d9 (fun x hx => (hxt x hx).elim) hR1 hR2 hR3 hR4 hC.2.2.2.2.2.2 (fun t hvm hz hq => ?_) hW.2.2.2.1.2.2 (Nat.le_refl _) (Nat.le_refl _)
  refine ⟨(), trivial, ⟨ho, hW.2.1.kept (fun k q hk => hq _ (hW.2.1 k q hk).lt), va_K.moved hvm hW.1, hW.2.2.1⟩, Nat.le_trans hW.2.2.2.1.1 hz, fun q h1 h2 => ?_⟩
  rw [hq q (Nat.lt_of_lt_of_le h1 hW.2.2.2.1.1)]
  exact hW.2.2.2.1.2.1 q h1 h2
theorem gs_rxi {OUT : Type} {o : OUT ⊕ String} {ws' : OUT → va_W} {res : OUT → Int32} {XC : String → State → State → Prop} {r : Int32} (u : OUT) (hC : g_C p s m meth c args cc maxL (some .int) own) (hW : g_W tA dC dI cI cZ cJ A s H locs ws) (hw : ws = ws' u) (ho : o = .inl u) (hr : r = res u) (h1 : cells ≤ 1) (h2 : slots ≤ 6) (hdg : decode cc pc = .ok (.ireturn, 1)) : W p l e R s m args below meth c H locs cells slots (vx_MQ below (g_Qx dC dI cI cZ cJ A ws' res o) XC args s 1 6 A) (F0 m pc ls [.int r]) := by
  subst hw; subst hr
  refine vx_ret (W.widen h1 h2 ?_)
  exact W.iret hC.1 hC.2.1 hC.2.2.1 (fun t ht hv => ⟨⟨_, u, rfl, ⟨ho, rfl⟩, by rw [ht]; exact hW.2.1, va_K.moved hv.alike hW.1, hW.2.2.1⟩, hW.2.2.2.1.F ht⟩) hW.2.2.2.1.2.2 hdg hC.2.2.2.2.2.2
theorem gs_rxz {OUT : Type} {o : OUT ⊕ String} {ws' : OUT → va_W} {res : OUT → Int32} {XC : String → State → State → Prop} {r : Int32} (u : OUT) (hC : g_C p s m meth c args cc maxL (some .boolean) own) (hW : g_W tA dC dI cI cZ cJ A s H locs ws) (hw : ws = ws' u) (ho : o = .inl u) (hr : r = res u) (h1 : cells ≤ 1) (h2 : slots ≤ 6) (hn : narrow .boolean (.int r) = .int r) (hdg : decode cc pc = .ok (.ireturn, 1)) : W p l e R s m args below meth c H locs cells slots (vx_MQ below (g_Qx dC dI cI cZ cJ A ws' res o) XC args s 1 6 A) (F0 m pc ls [.int r]) := by
  subst hw; subst hr
  refine vx_ret (W.widen h1 h2 ?_)
  exact W.zret hC.1 hC.2.1 hC.2.2.1 hn (fun t ht hv => ⟨⟨_, u, rfl, ⟨ho, rfl⟩, by rw [ht]; exact hW.2.1, va_K.moved hv.alike hW.1, hW.2.2.1⟩, hW.2.2.2.1.F ht⟩) hW.2.2.2.1.2.2 hdg hC.2.2.2.2.2.2
theorem gs_preVX {wc : va_W} {b : Nat} {vs : List Value} {C : String} {T : u_T} {N ci q0 : Nat} {fs : List Value} (hW : g_W tA dC dI cI cZ cJ A s H locs ws) (hH : g_H A s s.heap) (isC : List Nat) (hn : va_nd isC = true) (hC : isC.map (fun i => ws[i]?) = wc.map some) (hc : vwCl[ci]? = some (C, T, N)) (he : ws[q0]? = some (b, .inr (ci, fs))) : PreV s H C b (va_Pc (.ref b :: vs) (g_preX tA dC dI cI cZ cJ H.size wc)) vs := by
  obtain ⟨h1, h2, h3⟩ := gs_preV (vs := vs) hW isC hn hC hc he
  refine ⟨fun a U g mk q => ?_, h2, fun U hU hw => ⟨(h3 U hU hw).1, (h3 U hU hw).2, ?_⟩⟩
  · obtain ⟨q0, q1, q2⟩ := q
    exact ⟨(h1 a U g mk ⟨q0, q1⟩).1, (h1 a U g mk ⟨q0, q1⟩).2, g_H.same (u := U) (U := U.calling g mk a) rfl q2⟩
  · rw [hU]
    exact g_H.on hw hW.2.2.2.1.2.1 (va_free (wc := wc) hW.2.2.1 hW.2.2.2.1 hW.2.2.2.2.1 isC hC) hH
/-- a call of a method that may throw, in one that lets it through -/
theorem gs_callXi {OUT OUT' : Type} {y : MethodName} {bytes : ByteArray} {maxL' index n b ci N : Nat} {ret' : Option FieldType} {rm : Room} {C : String} {T : u_T} {fs : List Value} {wc : va_W} {w1 : OUT' → va_W} {ws' : OUT' → va_W} {res' : OUT' → Int32} {o' : OUT' ⊕ String} {vs st0 : List Value} {o : OUT ⊕ String} {ws0 : va_W} {Qc : Array Value → State → Outcome → State → Prop} {k : OUT' → Option (OUT ⊕ String)}
    (hC : g_C p s m meth c args cc maxL ret own) (hW : g_W tA dC dI cI cZ cJ A s H locs ws) (hH : g_H A s s.heap) (hxt : ∀ x ∈ c.exceptionTable.toList, False) (hM : g_MX l y bytes maxL' ret' rm tA dC dI cI cZ cJ (.ref b :: vs) wc w1 res' o') (hf0 : g_cs o' k = some o) (hw0 : ws = ws0) (hY : g_Y y bytes maxL' ret' n) (hlk : Cond.methodLink own index y ∈ gw) (hiv : Cond.instanceMethod y ∈ gw ∧ Cond.selects C y y ∈ gw) (hrm0 : rm.cells = 1 ∧ rm.slots = 6) (hR9 : rm.frames + 1 ≤ R.frames ∧ 8 + (maxL' + 11) + rm.locals ≤ R.locals) (hls : ls.size = maxL) (q0 : Nat) (hc : vwCl[ci]? = some (C, T, N)) (he : ws[q0]? = some (b, .inr (ci, fs)))
    (isC isR pm : List Nat) (hn0 : va_nd isC = true) (hCC : isC.map (fun i => ws[i]?) = wc.map some) (hR : isR.map (fun i => ws[i]?) = (isR.filterMap (fun i => ws[i]?)).map some) (hn : va_nd isR = true) (hdis : ∀ i ∈ isR, i ∉ isC) (hn2 : va_nd pm = true) (hp : ∀ u, pm.map (fun i => (isR.filterMap (fun i => ws[i]?) ++ w1 u)[i]?) = (ws' u).map some) (hp0 : pm.map (fun i => (isR.filterMap (fun i => ws[i]?) ++ wc)[i]?) = ws.map some)
    (hlen : vs.length = n) (hst : st0 = vs.reverse ++ .ref b :: rest) (hrm : (rest.map fun v => v.category).sum ≤ 8) (hdg : decode cc pc = .ok (.invokevirtual index, 3)) (hf : 1 ≤ R.cells ∧ 6 ≤ R.slots)
    (kk : ∀ (u : OUT') (H : Heap) (locs : List Loc), k u = some o → g_W tA dC dI cI cZ cJ A s H locs (ws' u) → W p l e R s m args below meth c H locs 1 6 (vx_MQ below Qc (g_Xx dC dI cI cZ cJ A ws0 o) args s 1 6 A) (F0 m (pc + 3) ls (.int (res' u) :: rest))) : W p l e R s m args below meth c H locs 0 0 (vx_MQ below Qc (g_Xx dC dI cI cZ cJ A ws0 o) args s 1 6 A) (F0 m pc ls st0) := by
  subst hw0
  have hF := va_free (wc := wc) hW.2.2.1 hW.2.2.2.1 hW.2.2.2.2.1 isC hCC
  refine vx_calli (vx_runV (As := vs) (rest := rest) ⟨hC.1, hC.2.1, hC.2.2.2.1, hC.2.2.2.2.1, hC.2.2.2.2.2.1⟩ (hM H.size) (gc_V hC.2.2.2.2.2.1 hY hlk hiv hrm0.1 hrm0.2 hR9) (gs_preVX hW hH isC hn0 hCC hc he) rfl hlen hls hst (lv_room hrm) hdg (by simpa using hf)) hW.2.2.2.1 (fun q _ h => hF q h) hF (fun q _ h => hF q h) (fun E ce q9 u t H1 locs1 ht hvm _ hB hz hk hS hce hcv hcl => ?_) (fun r u t H1 locs1 ht hvm hv hB hz hk hS => ?_)
  · obtain ⟨ho', hB⟩ := hB
    subst ho'
    have ho : o = .inr E := (Option.some.inj hf0).symm
    have hW1 := gs_back hW isC isR pm hCC hR hn hdis hn2 hp0 ht hk hB hS
    refine vx_widen (k := 1) (n := 6) (by simp) (by simp) ?_
    exact vx_out (fun x hx => (hxt x hx).elim) hC.2.2.2.2.2.2 hce hcv hcl (fun t ht hvm => ⟨(), trivial, ⟨ho, by rw [ht]; exact hW1.2.1, va_K.moved hvm hW1.1, hW1.2.2.1⟩, hW1.2.2.2.1.F ht⟩) hW1.2.2.2.1.2.2 (Nat.le_refl _) (Nat.le_refl _)
  · obtain ⟨ho', rfl⟩ := hv
    subst ho'
    refine W.cs (cells' := 1) (slots' := 6) (by simp) (by simp) ?_
    exact kk u H1 locs1 hf0 (gs_back hW isC isR pm hCC hR hn hdis hn2 (hp u) ht hk hB hS)
end GX
theorem ge_x {OUT : Type} {l : Launch} {y : MethodName} {rm : Room} {tA : Nat} {dC : Nat → ClassId} {dI : Nat → Nat → Nat} {cI cZ cJ : ClassId} {vs : List Value} {ws : va_W} {ws' : OUT → va_W} {res : OUT → Int32} {o : OUT ⊕ String} {cc : ByteArray} {maxL : Nat} {ret : Option FieldType} (hy : plainName y.cls = true) (hn : (lg_sl vs).length ≤ maxL)
    (body : ∀ (p : Program) (e : Env) (s : State) (m : MethodId) (below : List Frame) (meth : Method) (c : Code) (A : Nat → Prop) (H : Heap) (locs : List Loc) (ls : Array Slot), g_C p s m meth c vs.toArray cc maxL ret y.cls → (∀ x ∈ c.exceptionTable.toList, False) → g_H A s s.heap → g_W tA dC dI cI cZ cJ A s H locs ws → lv_has ls maxL (lv_args 0 vs) →
      W p l e rm s m vs.toArray below meth c H locs 0 0 (vx_MQ below (g_Qx dC dI cI cZ cJ A ws' res o) (g_Xx dC dI cI cZ cJ A ws o) vs.toArray s 1 6 A) (F0 m 0 ls [])) : g_MX l y cc maxL ret rm tA dC dI cI cZ cJ vs ws ws' res o := by
  intro sz
  refine vx_ofW (cc := cc) (maxL := maxL) (ret := ret) hy rfl ?_
  intro p e s m args below meth c s₁ B hml hxt hv
  obtain ⟨rfl, ⟨hsz, hP, hK, hD0, hG0⟩, hH0⟩ := hv
  subst hsz
  rw [lg_entry_eq]
  exact body p e s m below meth c _ s.heap [] _ ⟨B.exec, B.bytes, B.returns, hml, findClass_of_methodNamed B.named, fun w hw => atoms_spec (ws := Cond.code y cc maxL ret :: gw) B.pre w (List.mem_cons_of_mem _ hw), B.notSynchronized⟩ hxt hH0 ⟨hK, hP, hD0.self (sz := s.heap.size), va_S.rf, fun q h => Or.inr h, hG0⟩ (lv_entry vs hn)
