/-! BASE: the bundles that every row of mine speaks of, and the rows of the kit over these bundles. -/
/-- the tables' words that stay good -/
def gw : List Cond := lw_tbl.filter goodWord
theorem gw_i {w : Cond} (k : Nat) (h : lw_tbl[k]? = some w) (hg : goodWord w = true) : w ∈ gw := List.mem_filter.mpr ⟨List.mem_of_getElem? h, hg⟩
theorem gw_good {c : Cond} {w : Cond} (h : w ∈ gw) : (w.onTables && w.keeps) = true ∨ ∃ ty, w = .arrayClass ty := good_of_word (List.mem_filter.mp h).2
/-- what a call asks of the called method's name -/
def g_Y (y : MethodName) (bytes : ByteArray) (maxL : Nat) (ret : Option FieldType) (n : Nat) : Prop :=
  Cond.code y bytes maxL ret ∈ gw ∧ Cond.initialized y.cls ∈ gw ∧ y.cls ≠ "java/lang/invoke/MethodHandle" ∧ y.cls ≠ "java/lang/invoke/VarHandle" ∧ (parseMethodDescriptor y.desc).map (fun d => d.parameters.length) = some n
theorem gc_G {y : MethodName} {bytes : ByteArray} {maxL : Nat} {ret : Option FieldType} (h : Cond.code y bytes maxL ret ∈ gw) : GoodIn gw (Cond.code y bytes maxL ret :: gw) := fun w hw => by
  rcases List.mem_cons.mp hw with rfl | hw
  · exact ⟨h, gw_good (c := .tt) h⟩
  · exact ⟨hw, gw_good (c := .tt) hw⟩
theorem gc_B {R : Room} {s : State} {args : Array Value} {own : String} {index maxL mc ms n : Nat} {y : MethodName} {bytes : ByteArray} {ret : Option FieldType} {rm : Room} (hts : ∀ w ∈ gw, w.before args s = true) (hY : g_Y y bytes maxL ret n) (hl : Cond.methodLink own index y ∈ gw) (hc : rm.cells = mc) (hs : rm.slots = ms) (hR : rm.frames + 1 ≤ R.frames ∧ 8 + (maxL + 11) + rm.locals ≤ R.locals) :
    CallB R s args own index y bytes maxL ret (Cond.code y bytes maxL ret :: gw) rm mc ms n :=
  callB_of n hts (gc_G hY.1) rfl hc hs (hts _ hY.2.1) (hts _ hl) hY.2.2 hR
theorem gc_V {R : Room} {s : State} {args : Array Value} {own C : String} {index maxL mc ms n : Nat} {y : MethodName} {bytes : ByteArray} {ret : Option FieldType} {rm : Room} (hts : ∀ w ∈ gw, w.before args s = true) (hY : g_Y y bytes maxL ret n) (hl : Cond.methodLink own index y ∈ gw) (hv : Cond.instanceMethod y ∈ gw ∧ Cond.selects C y y ∈ gw) (hc : rm.cells = mc) (hs : rm.slots = ms) (hR : rm.frames + 1 ≤ R.frames ∧ 8 + (maxL + 11) + rm.locals ≤ R.locals) :
    CallW R s args own C index y bytes maxL ret (Cond.code y bytes maxL ret :: gw) rm mc ms n :=
  ⟨gc_B hts hY hl hc hs hR, hts _ hv.1, hts _ hv.2⟩
abbrev g_ty (cI cZ cJ : ClassId) : List (ClassId × FieldType) := [(cI, .int), (cZ, .boolean), (cJ, .long)]
def g_C (p : Program) (s : State) (m : MethodId) (meth : Method) (c : Code) (args : Array Value) (cc : ByteArray) (maxL : Nat) (ret : Option FieldType) (own : String) : Prop :=
  p.tables.exec = Jvm.exec ∧ c.code = cc ∧ meth.sig.returnType = ret ∧ c.maxLocals = maxL ∧ s.vm.findClass own = some m.cls ∧ (∀ w ∈ gw, w.before args s = true) ∧ meth.locks = false
/-- the words of private members of a nest, which don't stay good by themselves -/
def g_isN : Cond → Bool
  | .fieldLinkNest .. => true
  | .methodLinkNest .. => true
  | .declares .. => true
  | _ => false
def gn : List Cond := lw_tbl.filter g_isN
theorem gn_i {w : Cond} (k : Nat) (h : lw_tbl[k]? = some w) (hg : g_isN w = true) : w ∈ gn := List.mem_filter.mpr ⟨List.mem_of_getElem? h, hg⟩
theorem gn_on {w : Cond} (h : w ∈ gn) : w.onTables = true := by
  have h2 := (List.mem_filter.mp h).2
  cases w <;> first | rfl | exact absurd h2 Bool.false_ne_true
theorem gn_warm {w : Cond} (h : w ∈ gn) {s U : State} (hW : s.WarmedH U.vm) (hZ : va_Nw w s) : va_Nw w U := by
  have h2 := (List.mem_filter.mp h).2
  cases w <;> first | exact va_Nw.warmF hW hZ | exact va_Nw.warmM hW hZ | exact va_Nw.warmD hW hZ | exact absurd h2 Bool.false_ne_true
def g_used : Nat → Value := fun j => .int (([1, 2, 2, 2, 2, 0, 1, 1, 0, 1, 3, 3, 0] : List Int32).getD j 0)
/-- what stands outside the worlds: the table of the class, the nest's words -/
def g_G (tA : Nat) (A : Nat → Prop) (U : State) (H : Heap) : Prop :=
  va_Z "ConstantSpread" "OPERANDS_USED" "[I" (.ref tA) A U H ∧ va_T .int tA 13 g_used A U H ∧ ∀ w ∈ gn, va_Nw w U
theorem g_G.same {tA : Nat} {A : Nat → Prop} {u U : State} {H : Heap} (hv : u.vm = U.vm) (h : g_G tA A u H) : g_G tA A U H :=
  ⟨va_Z.moved (hv ▸ Vm.Alike.refl u.vm) h.1, va_T.moved (hv ▸ Vm.Alike.refl u.vm) h.2.1, fun w hw => va_Nw.same (gn_on hw) hv (h.2.2 w hw)⟩
theorem g_G.on {tA : Nat} {A B : Nat → Prop} {u U : State} {H H1 : Heap} (hW : u.WarmedH U.vm) (hq : ∀ a : Nat, a < H.size → ¬ A a → H1[a]? = H[a]?) (hAB : ∀ q, B q → A q) (h : g_G tA A u H) : g_G tA B U H1 :=
  ⟨((h.1.kept hq).narrow hAB).moved hW.alike, ((h.2.1.kept hq).narrow hAB).moved hW.alike, fun w hw => gn_warm hw hW (h.2.2 w hw)⟩
def g_W (tA : Nat) (dC : Nat → ClassId) (dI : Nat → Nat → Nat) (cI cZ cJ : ClassId) (A : Nat → Prop) (s : State) (H : Heap) (locs : List Loc) (ws : va_W) : Prop :=
  va_K (dC, dI) vwCl (g_ty cI cZ cJ) s ∧ va_P (dC, dI) vwCl ws H ∧ va_D A ws ∧ va_S A s.heap H locs ∧ (∀ q : Nat, s.heap.size ≤ q → A q) ∧ g_G tA A s s.heap
def g_pre (tA : Nat) (dC : Nat → ClassId) (dI : Nat → Nat → Nat) (cI cZ cJ : ClassId) (sz : Nat) (ws : va_W) : State → Prop := fun U =>
  U.heap.size = sz ∧ va_P (dC, dI) vwCl ws U.heap ∧ va_K (dC, dI) vwCl (g_ty cI cZ cJ) U ∧ va_D (fun _ => True) ws ∧ g_G tA (va_A ws sz) U U.heap
def g_post (dC : Nat → ClassId) (dI : Nat → Nat → Nat) (cI cZ cJ : ClassId) (A : Nat → Prop) (ws : va_W) : Unit → State → Prop := fun _ t =>
  va_P (dC, dI) vwCl ws t.heap ∧ va_K (dC, dI) vwCl (g_ty cI cZ cJ) t ∧ va_D A ws
def g_Qi (dC : Nat → ClassId) (dI : Nat → Nat → Nat) (cI cZ cJ : ClassId) (A : Nat → Prop) (ws : va_W) (r : Int32) : Array Value → State → Outcome → State → Prop := va_Qi (fun v (_ : Unit) => v = r) (g_post dC dI cI cZ cJ A ws) A
def g_Qv (dC : Nat → ClassId) (dI : Nat → Nat → Nat) (cI cZ cJ : ClassId) (A : Nat → Prop) (ws : va_W) : Array Value → State → Outcome → State → Prop := va_Qv (fun (_ : Unit) => True) (g_post dC dI cI cZ cJ A ws) A
/-- the contract of a method that makes nothing and answers an int -/
def g_Mi (l : Launch) (y : MethodName) (bytes : ByteArray) (maxL : Nat) (ret : Option FieldType) (rm : Room) (tA : Nat) (dC : Nat → ClassId) (dI : Nat → Nat → Nat) (cI cZ cJ : ClassId) (vs : List Value) (ws ws' : va_W) (r : Int32) : Prop :=
  ∀ sz : Nat, Met l y (Cond.code y bytes maxL ret :: gw) rm (va_Pc vs (g_pre tA dC dI cI cZ cJ sz ws)) (g_Qi dC dI cI cZ cJ (va_A ws sz) ws' r) 0 0 (va_A ws sz)
/-- .. and answers nothing -/
def g_Mv (l : Launch) (y : MethodName) (bytes : ByteArray) (maxL : Nat) (ret : Option FieldType) (rm : Room) (tA : Nat) (dC : Nat → ClassId) (dI : Nat → Nat → Nat) (cI cZ cJ : ClassId) (vs : List Value) (ws ws' : va_W) : Prop :=
  ∀ sz : Nat, Met l y (Cond.code y bytes maxL ret :: gw) rm (va_Pc vs (g_pre tA dC dI cI cZ cJ sz ws)) (g_Qv dC dI cI cZ cJ (va_A ws sz) ws') 0 0 (va_A ws sz)
/-! what the code does, as functions -/
def g_rd (n : Nat) (f : Nat → Int32) (i : Int32) : Option Int32 := if i < 0 ∨ n ≤ i.toNatClampNeg then none else some (f i.toNatClampNeg)
def g_wr (n : Nat) (f : Nat → Int32) (i x : Int32) : Option (Nat → Int32) := if i < 0 ∨ n ≤ i.toNatClampNeg then none else some (upd f i.toNatClampNeg x)
def g_wz (n : Nat) (f : Nat → Int32) (i x : Int32) : Option (Nat → Int32) := if i < 0 ∨ n ≤ i.toNatClampNeg then none else some (upd f i.toNatClampNeg (vp_nar .boolean x))
def g_dv (x y : Int32) : Option Int32 := if y = 0 then none else some (x / y)
def g_rm (x y : Int32) : Option Int32 := if y = 0 then none else some (x - x / y * y)
def g_zr (x : Int32) : Option Int32 := if x = 0 ∨ x = 1 then some x else none
def g_cp (n0 : Nat) (f : Nat → Int32) (sp : Int32) (n1 : Nat) (g : Nat → Int32) (dp n : Int32) : Option (Nat → Int32) :=
  if sp < 0 ∨ dp < 0 ∨ n < 0 ∨ n0 < sp.toNatClampNeg + n.toNatClampNeg ∨ n1 < dp.toNatClampNeg + n.toNatClampNeg then none else some (va_cpy f g sp.toNatClampNeg dp.toNatClampNeg n.toNatClampNeg)
theorem g_bnd {α β : Type} {x : Option α} {f : α → Option β} {o : β} (h : x.bind f = some o) : ∃ v, x = some v ∧ f v = some o := by
  cases x with
  | none => cases h
  | some v => exact ⟨v, rfl, h⟩
theorem g_no {β : Type} {o : β} {P : Prop} (h : (none : Option β) = some o) : P := by cases h
theorem g_rd_ok {n : Nat} {f : Nat → Int32} {i v : Int32} (h : g_rd n f i = some v) : vp_in i n ∧ f i.toNatClampNeg = v := by
  unfold g_rd at h
  by_cases c : i < 0 ∨ n ≤ i.toNatClampNeg
  · rw [if_pos c] at h; cases h
  · rw [if_neg c] at h; exact ⟨c, Option.some.inj h⟩
theorem g_wr_ok {n : Nat} {f g : Nat → Int32} {i x : Int32} (h : g_wr n f i x = some g) : vp_in i n ∧ upd f i.toNatClampNeg x = g := by
  unfold g_wr at h
  by_cases c : i < 0 ∨ n ≤ i.toNatClampNeg
  · rw [if_pos c] at h; cases h
  · rw [if_neg c] at h; exact ⟨c, Option.some.inj h⟩
theorem g_wz_ok {n : Nat} {f g : Nat → Int32} {i x : Int32} (h : g_wz n f i x = some g) : vp_in i n ∧ upd f i.toNatClampNeg (vp_nar .boolean x) = g := by
  unfold g_wz at h
  by_cases c : i < 0 ∨ n ≤ i.toNatClampNeg
  · rw [if_pos c] at h; cases h
  · rw [if_neg c] at h; exact ⟨c, Option.some.inj h⟩
theorem g_dv_ok {x y v : Int32} (h : g_dv x y = some v) : ¬ y = 0 ∧ x / y = v := by
  unfold g_dv at h
  by_cases c : y = 0
  · rw [if_pos c] at h; cases h
  · rw [if_neg c] at h; exact ⟨c, Option.some.inj h⟩
theorem g_rm_ok {x y v : Int32} (h : g_rm x y = some v) : ¬ y = 0 ∧ x - x / y * y = v := by
  unfold g_rm at h
  by_cases c : y = 0
  · rw [if_pos c] at h; cases h
  · rw [if_neg c] at h; exact ⟨c, Option.some.inj h⟩
theorem g_zr_ok {x v : Int32} (h : g_zr x = some v) : x = v ∧ narrow .boolean (.int v) = .int v ∧ fits .boolean (.int v) = true := by
  unfold g_zr at h
  by_cases c : x = 0 ∨ x = 1
  · rw [if_pos c] at h
    obtain rfl := Option.some.inj h
    exact ⟨rfl, by rcases c with rfl | rfl <;> decide, by rcases c with rfl | rfl <;> decide⟩
  · rw [if_neg c] at h; cases h
theorem g_n0 : narrow .boolean (.int 0) = .int 0 := by decide
theorem g_n1 : narrow .boolean (.int 1) = .int 1 := by decide
theorem g_cp_ok {n0 n1 : Nat} {f g h' : Nat → Int32} {sp dp n : Int32} (h : g_cp n0 f sp n1 g dp n = some h') :
    ¬ sp < 0 ∧ ¬ dp < 0 ∧ ¬ n < 0 ∧ sp.toNatClampNeg + n.toNatClampNeg ≤ n0 ∧ dp.toNatClampNeg + n.toNatClampNeg ≤ n1 ∧ va_cpy f g sp.toNatClampNeg dp.toNatClampNeg n.toNatClampNeg = h' := by
  unfold g_cp at h
  by_cases c : sp < 0 ∨ dp < 0 ∨ n < 0 ∨ n0 < sp.toNatClampNeg + n.toNatClampNeg ∨ n1 < dp.toNatClampNeg + n.toNatClampNeg
  · rw [if_pos c] at h; cases h
  · rw [if_neg c] at h
    refine ⟨fun q => c (Or.inl q), fun q => c (Or.inr (Or.inl q)), fun q => c (Or.inr (Or.inr (Or.inl q))), ?_, ?_, Option.some.inj h⟩
    · exact Nat.le_of_not_lt fun q => c (Or.inr (Or.inr (Or.inr (Or.inl q))))
    · exact Nat.le_of_not_lt fun q => c (Or.inr (Or.inr (Or.inr (Or.inr q))))
section GB
variable {p : Program} {l : Launch} {e : Env} {R : Room} {s : State} {m : MethodId} {args : Array Value} {below : List Frame} {meth : Method} {c : Code} {H : Heap} {locs : List Loc} {cells slots : Nat} {Q : State → Prop}
variable {cc : ByteArray} {maxL : Nat} {ret : Option FieldType} {own : String} {tA : Nat} {dC : Nat → ClassId} {dI : Nat → Nat → Nat} {cI cZ cJ : ClassId} {A : Nat → Prop} {ws : va_W} {a pc : Nat} {ls : Array Slot} {rest : List Value}
theorem gs_get (hC : g_C p s m meth c args cc maxL ret own) (hW : g_W tA dC dI cI cZ cJ A s H locs ws) {C : String} {T : u_T} {N ci index : Nat} (hin : ∀ w ∈ u_ws C T N, w ∈ gw) (q0 k : Nat) {fs : List Value} (he : ws[q0]? = some (a, .inr (ci, fs))) (hc : vwCl[ci]? = some (C, T, N)) (hk : k < N)
    (hl : Cond.fieldLink own index (T k).1 (T k).2.1 (T k).2.2.1 ∈ gw) {v : Value} (hv : fs[k]? = some v) (hdg : decode cc pc = .ok (.getfield index, 3))
    (kk : W p l e R s m args below meth c H locs cells slots Q (F0 m (pc + 3) ls (v :: rest))) : W p l e R s m args below meth c H locs cells slots Q (F0 m pc ls (.ref a :: rest)) :=
  va_get hC.1 hC.2.1 hC.2.2.2.2.2.1 hin hC.2.2.2.2.1 hW.1 hW.2.1 q0 he hc k hk (hC.2.2.2.2.2.1 _ hl) (fun _ h9 => h9) hv hdg kk
theorem gs_put (hC : g_C p s m meth c args cc maxL ret own) (hW : g_W tA dC dI cI cZ cJ A s H locs ws) {C : String} {T : u_T} {N ci index : Nat} (hin : ∀ w ∈ u_ws C T N, w ∈ gw) {ty0 : Nat → FieldType} (hty : ∀ k, k < N → parseFieldDescriptor (T k).2.2.1 = some (ty0 k)) (hnm : ∀ a, a < N → ∀ b, b < N → a ≠ b → (T a).2.1 ≠ (T b).2.1) (q0 k : Nat) {fs : List Value} {ws' : va_W} {v : Value}
    (he : ws[q0]? = some (a, .inr (ci, fs))) (hc : vwCl[ci]? = some (C, T, N)) (hk : k < N) (hl : Cond.fieldLink own index (T k).1 (T k).2.1 (T k).2.2.1 ∈ gw) (hfin : (T k).2.2.2 = false) (hn : narrow (ty0 k) v = v) (hfit : fits (ty0 k) v = true) (hlen : k < fs.length) (hset : ws.set q0 (a, .inr (ci, fs.set k v)) = ws') (hdg : decode cc pc = .ok (.putfield index, 3))
    (kk : ∀ (H : Heap) (locs : List Loc), g_W tA dC dI cI cZ cJ A s H locs ws' → W p l e R s m args below meth c H locs cells slots Q (F0 m (pc + 3) ls rest)) : W p l e R s m args below meth c H locs cells slots Q (F0 m pc ls (v :: .ref a :: rest)) := by
  subst hset
  exact va_put hC.1 hC.2.1 hC.2.2.2.2.2.1 hin ty0 hty hnm hC.2.2.2.2.1 hW.1 hW.2.1 hW.2.2.1 hW.2.2.2.1 q0 he hc k hk (hC.2.2.2.2.2.1 _ hl) (fun _ h9 => h9) hfin (hty k hk) hn hfit hlen hdg (fun H1 locs1 hP hD hS => kk H1 locs1 ⟨hW.1, hP, hD, hS, hW.2.2.2.2⟩)
theorem gs_iald (hC : g_C p s m meth c args cc maxL ret own) (hW : g_W tA dC dI cI cZ cJ A s H locs ws) (q0 : Nat) {n : Nat} {f : Nat → Int32} {i v : Int32} (hr : g_rd n f i = some v) (he : ws[q0]? = some (a, .inl (cI, n, .inl f))) (hdg : decode cc pc = .ok (.iaload, 1))
    (kk : W p l e R s m args below meth c H locs cells slots Q (F0 m (pc + 1) ls (.int v :: rest))) : W p l e R s m args below meth c H locs cells slots Q (F0 m pc ls (.int i :: .ref a :: rest)) := by
  obtain ⟨hin, rfl⟩ := g_rd_ok hr
  exact va_iald hC.1 hC.2.1 hW.1 hW.2.1 q0 0 he rfl hin hdg kk
theorem gs_zald (hC : g_C p s m meth c args cc maxL ret own) (hW : g_W tA dC dI cI cZ cJ A s H locs ws) (q0 : Nat) {n : Nat} {f : Nat → Int32} {i v : Int32} (hr : g_rd n f i = some v) (he : ws[q0]? = some (a, .inl (cZ, n, .inl f))) (hdg : decode cc pc = .ok (.baload, 1))
    (kk : W p l e R s m args below meth c H locs cells slots Q (F0 m (pc + 1) ls (.int v :: rest))) : W p l e R s m args below meth c H locs cells slots Q (F0 m pc ls (.int i :: .ref a :: rest)) := by
  obtain ⟨hin, rfl⟩ := g_rd_ok hr
  exact va_zald hC.1 hC.2.1 hW.1 hW.2.1 q0 1 he rfl hin hdg kk
theorem gs_iast (hC : g_C p s m meth c args cc maxL ret own) (hW : g_W tA dC dI cI cZ cJ A s H locs ws) (q0 : Nat) {n : Nat} {f g : Nat → Int32} {i x : Int32} {ws' : va_W} (hr : g_wr n f i x = some g) (he : ws[q0]? = some (a, .inl (cI, n, .inl f))) (hset : ws.set q0 (a, .inl (cI, n, .inl g)) = ws') (hdg : decode cc pc = .ok (.iastore, 1))
    (kk : ∀ (H : Heap) (locs : List Loc), g_W tA dC dI cI cZ cJ A s H locs ws' → W p l e R s m args below meth c H locs cells slots Q (F0 m (pc + 1) ls rest)) : W p l e R s m args below meth c H locs cells slots Q (F0 m pc ls (.int x :: .int i :: .ref a :: rest)) := by
  obtain ⟨hin, rfl⟩ := g_wr_ok hr
  subst hset
  exact va_iast hC.1 hC.2.1 hW.1 hW.2.1 hW.2.2.1 hW.2.2.2.1 q0 0 he rfl hin hdg (fun H1 locs1 hP hD hS => kk H1 locs1 ⟨hW.1, hP, hD, hS, hW.2.2.2.2⟩)
theorem gs_zast (hC : g_C p s m meth c args cc maxL ret own) (hW : g_W tA dC dI cI cZ cJ A s H locs ws) (q0 : Nat) {n : Nat} {f g : Nat → Int32} {i x : Int32} {ws' : va_W} (hr : g_wz n f i x = some g) (he : ws[q0]? = some (a, .inl (cZ, n, .inl f))) (hset : ws.set q0 (a, .inl (cZ, n, .inl g)) = ws') (hdg : decode cc pc = .ok (.bastore, 1))
    (kk : ∀ (H : Heap) (locs : List Loc), g_W tA dC dI cI cZ cJ A s H locs ws' → W p l e R s m args below meth c H locs cells slots Q (F0 m (pc + 1) ls rest)) : W p l e R s m args below meth c H locs cells slots Q (F0 m pc ls (.int x :: .int i :: .ref a :: rest)) := by
  obtain ⟨hin, rfl⟩ := g_wz_ok hr
  subst hset
  exact va_zast hC.1 hC.2.1 hW.1 hW.2.1 hW.2.2.1 hW.2.2.2.1 q0 1 he rfl hin hdg (fun H1 locs1 hP hD hS => kk H1 locs1 ⟨hW.1, hP, hD, hS, hW.2.2.2.2⟩)
theorem gs_len (hC : g_C p s m meth c args cc maxL ret own) (hW : g_W tA dC dI cI cZ cJ A s H locs ws) (q0 t0 : Nat) {cA : ClassId} {ty : FieldType} {n : Nat} {f : Nat → Int32} {v : Int32} (he : ws[q0]? = some (a, .inl (cA, n, .inl f))) (ht : (g_ty cI cZ cJ)[t0]? = some (cA, ty)) (hv : Int32.ofNat n = v) (hdg : decode cc pc = .ok (.arraylength, 1))
    (kk : W p l e R s m args below meth c H locs cells slots Q (F0 m (pc + 1) ls (.int v :: rest))) : W p l e R s m args below meth c H locs cells slots Q (F0 m pc ls (.ref a :: rest)) :=
  va_alen hC.1 hC.2.1 hW.1 hW.2.1 q0 t0 he ht hv hdg kk
theorem gs_idiv (hC : g_C p s m meth c args cc maxL ret own) {x y v : Int32} (hr : g_dv x y = some v) (hdg : decode cc pc = .ok (.idiv, 1)) (kk : W p l e R s m args below meth c H locs cells slots Q (F0 m (pc + 1) ls (.int v :: rest))) : W p l e R s m args below meth c H locs cells slots Q (F0 m pc ls (.int y :: .int x :: rest)) := by
  obtain ⟨hne, rfl⟩ := g_dv_ok hr
  exact lv_idiv hC.1 hC.2.1 hdg hne kk
theorem gs_irem (hC : g_C p s m meth c args cc maxL ret own) {x y v : Int32} (hr : g_rm x y = some v) (hdg : decode cc pc = .ok (.irem, 1)) (kk : W p l e R s m args below meth c H locs cells slots Q (F0 m (pc + 1) ls (.int v :: rest))) : W p l e R s m args below meth c H locs cells slots Q (F0 m pc ls (.int y :: .int x :: rest)) := by
  obtain ⟨hne, rfl⟩ := g_rm_ok hr
  exact lv_irem hC.1 hC.2.1 hdg hne kk
theorem gs_copy (hC : g_C p s m meth c args cc maxL ret own) (hW : g_W tA dC dI cI cZ cJ A s H locs ws) (q0 q1 : Nat) {index a0 n0 n1 : Nat} {f g h' : Nat → Int32} {sp dp n : Int32} {ws' : va_W} (hr : g_cp n0 f sp n1 g dp n = some h') (he0 : ws[q0]? = some (a0, .inl (cI, n0, .inl f))) (he1 : ws[q1]? = some (a, .inl (cI, n1, .inl g))) (hset : ws.set q1 (a, .inl (cI, n1, .inl h')) = ws')
    (hls : ls.size = maxL) (hlink : Cond.methodLink own index arraycopyName ∈ gw) (hnat : Cond.native arraycopyName ∈ gw) (hstat : Cond.static arraycopyName ∈ gw) (hini : Cond.initialized "java/lang/System" ∈ gw) (hframes : 1 ≤ R.frames) (hlocals : (rest.map fun v => v.category).sum + (nativeFrameWords "java/lang/System" "arraycopy" 5 + 11) ≤ R.locals) (hdg : decode cc pc = .ok (.invokestatic index, 3))
    (kk : ∀ (H : Heap) (locs : List Loc), g_W tA dC dI cI cZ cJ A s H locs ws' → W p l e R s m args below meth c H locs cells slots Q (F0 m (pc + 3) ls rest)) : W p l e R s m args below meth c H locs cells slots Q (F0 m pc ls (.int n :: .int dp :: .ref a :: .int sp :: .ref a0 :: rest)) := by
  obtain ⟨h1, h2, h3, h4, h5, rfl⟩ := g_cp_ok hr
  subst hset
  have hts := hC.2.2.2.2.2.1
  exact va_copyi hC.1 hC.2.1 (by rw [hC.2.2.2.1, hls]) hC.2.2.2.2.1 (hts _ hlink) (hts _ hnat) (hts _ hstat) (hts _ hini) hW.1 hW.2.1 hW.2.2.1 hW.2.2.2.1 q0 q1 0 0 he0 he1 rfl rfl rfl h1 h2 h3 h4 h5 (fun _ _ => rfl) hframes hlocals hdg (fun H1 locs1 hP hD hS => kk H1 locs1 ⟨hW.1, hP, hD, hS, hW.2.2.2.2⟩)
theorem gs_blind {vs : List Value} {sz : Nat} : FrameBlind (va_Pc vs (g_pre tA dC dI cI cZ cJ sz ws)) := fun a U g mk q => by
  obtain ⟨q0, q1, qP, qK, qD, qG⟩ := q
  exact ⟨q0, q1, qP, va_K.moved (u := U) (U := U.calling g mk a) (Vm.Alike.refl U.vm) qK, qD, g_G.same (u := U) (U := U.calling g mk a) rfl qG⟩
/-- what comes back from a call stands beside the rest, in the old order -/
theorem gs_back {wc w1 ws' : va_W} {H1 : Heap} {locs1 : List Loc} {t : State} (hW : g_W tA dC dI cI cZ cJ A s H locs ws) (isC isR pm : List Nat) (hC : isC.map (fun i => ws[i]?) = wc.map some) (hR : isR.map (fun i => ws[i]?) = (isR.filterMap (fun i => ws[i]?)).map some) (hn : va_nd isR = true) (hdis : ∀ i ∈ isR, i ∉ isC) (hn2 : va_nd pm = true) (hp : pm.map (fun i => (isR.filterMap (fun i => ws[i]?) ++ w1)[i]?) = ws'.map some)
    (ht : t.heap = H1) (hk : ∀ q : Nat, q < H.size → ¬ va_A wc H.size q → H1[q]? = H[q]?) (hB : g_post dC dI cI cZ cJ (va_A wc H.size) w1 () t) (hS : va_S A s.heap H1 locs1) : g_W tA dC dI cI cZ cJ A s H1 locs1 ws' := by
  obtain ⟨hP1, hK1, hD1⟩ := hB
  rw [ht] at hP1
  generalize isR.filterMap (fun i => ws[i]?) = wr at hR hp
  have hF := va_free (wc := wc) hW.2.2.1 hW.2.2.2.1 hW.2.2.2.2.1 isC hC
  obtain ⟨hP, hD⟩ := va_join (wr := wr) (w1 := w1) hW.2.1 hW.2.2.1 isC isR hC hR hn hdis hk hF hP1 hD1
  refine ⟨hW.1, ?_, hD.sub pm hn2 hp, hS, hW.2.2.2.2⟩
  refine hP.sub pm ?_
  have h1 : pm.filterMap (fun i => (wr ++ w1)[i]?) = (pm.map (fun i => (wr ++ w1)[i]?)).filterMap id := by rw [List.filterMap_map]; rfl
  rw [h1, hp, List.filterMap_map]
  simp
theorem gs_sub {wc : va_W} (hW : g_W tA dC dI cI cZ cJ A s H locs ws) (isC : List Nat) (hn : va_nd isC = true) (hC : isC.map (fun i => ws[i]?) = wc.map some) : va_P (dC, dI) vwCl wc H ∧ va_D A wc := by
  refine ⟨hW.2.1.sub isC ?_, hW.2.2.1.sub isC hn hC⟩
  have h1 : isC.filterMap (fun i => ws[i]?) = (isC.map (fun i => ws[i]?)).filterMap id := by rw [List.filterMap_map]; rfl
  rw [h1, hC, List.filterMap_map]
  simp
theorem gs_G {wc : va_W} {U : State} (hW : g_W tA dC dI cI cZ cJ A s H locs ws) (isC : List Nat) (hC : isC.map (fun i => ws[i]?) = wc.map some) (hU : U.heap = H) (hw : s.WarmedH U.vm) : g_G tA (va_A wc H.size) U U.heap := by
  rw [hU]
  exact g_G.on hw hW.2.2.2.1.2.1 (va_free (wc := wc) hW.2.2.1 hW.2.2.2.1 hW.2.2.2.2.1 isC hC) hW.2.2.2.2.2
theorem gs_preS {wc : va_W} (hW : g_W tA dC dI cI cZ cJ A s H locs ws) (isC : List Nat) (hn : va_nd isC = true) (hC : isC.map (fun i => ws[i]?) = wc.map some) (vs : List Value) : PreS s H (va_Pc vs (g_pre tA dC dI cI cZ cJ H.size wc)) vs := by
  obtain ⟨hP, hD⟩ := gs_sub hW isC hn hC
  exact ⟨gs_blind, fun U hU hw => ⟨rfl, by rw [hU], by rw [hU]; exact hP, va_K.moved hw.alike hW.1, hD.weaken (fun _ _ _ _ => trivial), gs_G hW isC hC hU hw⟩⟩
theorem gs_preV {wc : va_W} {b : Nat} {vs : List Value} {C : String} {T : u_T} {N ci q0 : Nat} {fs : List Value} (hW : g_W tA dC dI cI cZ cJ A s H locs ws) (isC : List Nat) (hn : va_nd isC = true) (hC : isC.map (fun i => ws[i]?) = wc.map some) (hc : vwCl[ci]? = some (C, T, N)) (he : ws[q0]? = some (b, .inr (ci, fs))) : PreV s H C b (va_Pc (.ref b :: vs) (g_pre tA dC dI cI cZ cJ H.size wc)) vs := by
  obtain ⟨hP, hD⟩ := gs_sub hW isC hn hC
  exact ⟨gs_blind, va_recv hW.1 hW.2.1 hc he, fun U hU hw => ⟨rfl, by rw [hU], by rw [hU]; exact hP, va_K.moved hw.alike hW.1, hD.weaken (fun _ _ _ _ => trivial), gs_G hW isC hC hU hw⟩⟩
section CL
variable {l : Launch} {y : MethodName} {bytes : ByteArray} {maxL' index n : Nat} {ret' : Option FieldType} {rm : Room} {C : String} {wc w1 ws' : va_W} {vs : List Value} {r : Int32} {st0 : List Value}
theorem gs_callVi {b ci N : Nat} {T : u_T} {fs : List Value} (hC : g_C p s m meth c args cc maxL ret own) (hW : g_W tA dC dI cI cZ cJ A s H locs ws) (hM : g_Mi l y bytes maxL' ret' rm tA dC dI cI cZ cJ (.ref b :: vs) wc w1 r) (hY : g_Y y bytes maxL' ret' n) (hlk : Cond.methodLink own index y ∈ gw) (hiv : Cond.instanceMethod y ∈ gw ∧ Cond.selects C y y ∈ gw) (hrm0 : rm.cells = 0 ∧ rm.slots = 0) (hR9 : rm.frames + 1 ≤ R.frames ∧ 8 + (maxL' + 11) + rm.locals ≤ R.locals) (hls : ls.size = maxL) (q0 : Nat) (hc : vwCl[ci]? = some (C, T, N)) (he : ws[q0]? = some (b, .inr (ci, fs)))
    (isC isR pm : List Nat) (hn0 : va_nd isC = true) (hCC : isC.map (fun i => ws[i]?) = wc.map some) (hR : isR.map (fun i => ws[i]?) = (isR.filterMap (fun i => ws[i]?)).map some) (hn : va_nd isR = true) (hdis : ∀ i ∈ isR, i ∉ isC) (hn2 : va_nd pm = true) (hp : pm.map (fun i => (isR.filterMap (fun i => ws[i]?) ++ w1)[i]?) = ws'.map some)
    (hlen : vs.length = n) (hst : st0 = vs.reverse ++ .ref b :: rest) (hrm : (rest.map fun v => v.category).sum ≤ 8) (hdg : decode cc pc = .ok (.invokevirtual index, 3)) (hf : cells ≤ R.cells ∧ slots ≤ R.slots)
    (kk : ∀ (H : Heap) (locs : List Loc), g_W tA dC dI cI cZ cJ A s H locs ws' → W p l e R s m args below meth c H locs cells slots Q (F0 m (pc + 3) ls (.int r :: rest))) : W p l e R s m args below meth c H locs cells slots Q (F0 m pc ls st0) := by
  have hF := va_free (wc := wc) hW.2.2.1 hW.2.2.2.1 hW.2.2.2.2.1 isC hCC
  refine va_calli (va_runV (As := vs) (rest := rest) ⟨hC.1, hC.2.1, hC.2.2.2.1, hC.2.2.2.2.1, hC.2.2.2.2.2.1⟩ (hM H.size) (gc_V hC.2.2.2.2.2.1 hY hlk hiv hrm0.1 hrm0.2 hR9) (gs_preV hW isC hn0 hCC hc he) rfl hlen hls hst (lv_room hrm) hdg hf) hW.2.2.2.1 (fun q _ h => hF q h) hF (fun v u t H1 locs1 ht hvm hv hB hz hk hS => ?_)
  obtain rfl := hv
  exact kk H1 locs1 (gs_back hW isC isR pm hCC hR hn hdis hn2 hp ht hk hB hS)
theorem gs_callVv {b ci N : Nat} {T : u_T} {fs : List Value} (hC : g_C p s m meth c args cc maxL ret own) (hW : g_W tA dC dI cI cZ cJ A s H locs ws) (hM : g_Mv l y bytes maxL' ret' rm tA dC dI cI cZ cJ (.ref b :: vs) wc w1) (hY : g_Y y bytes maxL' ret' n) (hlk : Cond.methodLink own index y ∈ gw) (hiv : Cond.instanceMethod y ∈ gw ∧ Cond.selects C y y ∈ gw) (hrm0 : rm.cells = 0 ∧ rm.slots = 0) (hR9 : rm.frames + 1 ≤ R.frames ∧ 8 + (maxL' + 11) + rm.locals ≤ R.locals) (hls : ls.size = maxL) (q0 : Nat) (hc : vwCl[ci]? = some (C, T, N)) (he : ws[q0]? = some (b, .inr (ci, fs)))
    (isC isR pm : List Nat) (hn0 : va_nd isC = true) (hCC : isC.map (fun i => ws[i]?) = wc.map some) (hR : isR.map (fun i => ws[i]?) = (isR.filterMap (fun i => ws[i]?)).map some) (hn : va_nd isR = true) (hdis : ∀ i ∈ isR, i ∉ isC) (hn2 : va_nd pm = true) (hp : pm.map (fun i => (isR.filterMap (fun i => ws[i]?) ++ w1)[i]?) = ws'.map some)
    (hlen : vs.length = n) (hst : st0 = vs.reverse ++ .ref b :: rest) (hrm : (rest.map fun v => v.category).sum ≤ 8) (hdg : decode cc pc = .ok (.invokevirtual index, 3)) (hf : cells ≤ R.cells ∧ slots ≤ R.slots)
    (kk : ∀ (H : Heap) (locs : List Loc), g_W tA dC dI cI cZ cJ A s H locs ws' → W p l e R s m args below meth c H locs cells slots Q (F0 m (pc + 3) ls rest)) : W p l e R s m args below meth c H locs cells slots Q (F0 m pc ls st0) := by
  have hF := va_free (wc := wc) hW.2.2.1 hW.2.2.2.1 hW.2.2.2.2.1 isC hCC
  refine va_callv (va_runV (As := vs) (rest := rest) ⟨hC.1, hC.2.1, hC.2.2.2.1, hC.2.2.2.2.1, hC.2.2.2.2.2.1⟩ (hM H.size) (gc_V hC.2.2.2.2.2.1 hY hlk hiv hrm0.1 hrm0.2 hR9) (gs_preV hW isC hn0 hCC hc he) rfl hlen hls hst (lv_room hrm) hdg hf) hW.2.2.2.1 (fun q _ h => hF q h) hF (fun u t H1 locs1 ht hvm hv hB hz hk hS => ?_)
  exact kk H1 locs1 (gs_back hW isC isR pm hCC hR hn hdis hn2 hp ht hk hB hS)
theorem gs_callSi (hC : g_C p s m meth c args cc maxL ret own) (hW : g_W tA dC dI cI cZ cJ A s H locs ws) (hM : g_Mi l y bytes maxL' ret' rm tA dC dI cI cZ cJ vs wc w1 r) (hY : g_Y y bytes maxL' ret' n) (hlk : Cond.methodLink own index y ∈ gw) (hiv : Cond.static y ∈ gw) (hrm0 : rm.cells = 0 ∧ rm.slots = 0) (hR9 : rm.frames + 1 ≤ R.frames ∧ 8 + (maxL' + 11) + rm.locals ≤ R.locals) (hls : ls.size = maxL)
    (isC isR pm : List Nat) (hn0 : va_nd isC = true) (hCC : isC.map (fun i => ws[i]?) = wc.map some) (hR : isR.map (fun i => ws[i]?) = (isR.filterMap (fun i => ws[i]?)).map some) (hn : va_nd isR = true) (hdis : ∀ i ∈ isR, i ∉ isC) (hn2 : va_nd pm = true) (hp : pm.map (fun i => (isR.filterMap (fun i => ws[i]?) ++ w1)[i]?) = ws'.map some)
    (hlen : vs.length = n) (hst : st0 = vs.reverse ++ rest) (hrm : (rest.map fun v => v.category).sum ≤ 8) (hdg : decode cc pc = .ok (.invokestatic index, 3)) (hf : cells ≤ R.cells ∧ slots ≤ R.slots)
    (kk : ∀ (H : Heap) (locs : List Loc), g_W tA dC dI cI cZ cJ A s H locs ws' → W p l e R s m args below meth c H locs cells slots Q (F0 m (pc + 3) ls (.int r :: rest))) : W p l e R s m args below meth c H locs cells slots Q (F0 m pc ls st0) := by
  have hF := va_free (wc := wc) hW.2.2.1 hW.2.2.2.1 hW.2.2.2.2.1 isC hCC
  refine va_calli (va_runS (As := vs) (rest := rest) ⟨hC.1, hC.2.1, hC.2.2.2.1, hC.2.2.2.2.1, hC.2.2.2.2.2.1⟩ (hM H.size) ⟨gc_B hC.2.2.2.2.2.1 hY hlk hrm0.1 hrm0.2 hR9, hC.2.2.2.2.2.1 _ hiv⟩ (gs_preS hW isC hn0 hCC vs) rfl hlen hls hst (lv_room hrm) hdg hf) hW.2.2.2.1 (fun q _ h => hF q h) hF (fun v u t H1 locs1 ht hvm hv hB hz hk hS => ?_)
  obtain rfl := hv
  exact kk H1 locs1 (gs_back hW isC isR pm hCC hR hn hdis hn2 hp ht hk hB hS)
theorem gs_callSNi {host : String} (hC : g_C p s m meth c args cc maxL ret own) (hW : g_W tA dC dI cI cZ cJ A s H locs ws) (hM : g_Mi l y bytes maxL' ret' rm tA dC dI cI cZ cJ vs wc w1 r) (hY : g_Y y bytes maxL' ret' n) (hlk : Cond.methodLinkNest own index y host ∈ gn) (hiv : Cond.static y ∈ gw) (hrm0 : rm.cells = 0 ∧ rm.slots = 0) (hR9 : rm.frames + 1 ≤ R.frames ∧ 8 + (maxL' + 11) + rm.locals ≤ R.locals) (hls : ls.size = maxL)
    (isC isR pm : List Nat) (hn0 : va_nd isC = true) (hCC : isC.map (fun i => ws[i]?) = wc.map some) (hR : isR.map (fun i => ws[i]?) = (isR.filterMap (fun i => ws[i]?)).map some) (hn : va_nd isR = true) (hdis : ∀ i ∈ isR, i ∉ isC) (hn2 : va_nd pm = true) (hp : pm.map (fun i => (isR.filterMap (fun i => ws[i]?) ++ w1)[i]?) = ws'.map some)
    (hlen : vs.length = n) (hst : st0 = vs.reverse ++ rest) (hrm : (rest.map fun v => v.category).sum ≤ 8) (hdg : decode cc pc = .ok (.invokestatic index, 3)) (hf : cells ≤ R.cells ∧ slots ≤ R.slots)
    (kk : ∀ (H : Heap) (locs : List Loc), g_W tA dC dI cI cZ cJ A s H locs ws' → W p l e R s m args below meth c H locs cells slots Q (F0 m (pc + 3) ls (.int r :: rest))) : W p l e R s m args below meth c H locs cells slots Q (F0 m pc ls st0) := by
  have hF := va_free (wc := wc) hW.2.2.1 hW.2.2.2.1 hW.2.2.2.2.1 isC hCC
  have hts := hC.2.2.2.2.2.1
  refine va_calli (va_runSN (As := vs) (rest := rest) ⟨hC.1, hC.2.1, hC.2.2.2.1, hC.2.2.2.2.1, hts⟩ (hM H.size) ⟨va_cnB n hts (gc_G hY.1) rfl hrm0.1 hrm0.2 (hW.2.2.2.2.2.2.2 _ hlk) (hts _ hY.2.1) hY.2.2 hR9, hts _ hiv, trivial⟩ (gs_preS hW isC hn0 hCC vs) rfl hlen hls hst (lv_room hrm) hdg hf) hW.2.2.2.1 (fun q _ h => hF q h) hF (fun v u t H1 locs1 ht hvm hv hB hz hk hS => ?_)
  obtain rfl := hv
  exact kk H1 locs1 (gs_back hW isC isR pm hCC hR hn hdis hn2 hp ht hk hB hS)
end CL
theorem gs_used (hC : g_C p s m meth c args cc maxL ret own) (hW : g_W tA dC dI cI cZ cJ A s H locs ws) {index : Nat} (hl : Cond.fieldLink own index "ConstantSpread" "OPERANDS_USED" "[I" ∈ gw) (hdg : decode cc pc = .ok (.getstatic index, 3))
    (kk : W p l e R s m args below meth c H locs cells slots Q (F0 m (pc + 3) ls (.ref tA :: rest))) : W p l e R s m args below meth c H locs cells slots Q (F0 m pc ls rest) :=
  va_gets hC.1 hC.2.1 hW.2.2.2.2.2.1 hW.2.2.2.1 hC.2.2.2.2.1 (hC.2.2.2.2.2.1 _ hl) (fun _ h9 => h9) hdg kk
theorem gs_usedN (hC : g_C p s m meth c args cc maxL ret own) (hW : g_W tA dC dI cI cZ cJ A s H locs ws) {index : Nat} (hl : Cond.fieldLinkNest own index "ConstantSpread" "OPERANDS_USED" "[I" "ConstantSpread" ∈ gn) (hdg : decode cc pc = .ok (.getstatic index, 3))
    (kk : W p l e R s m args below meth c H locs cells slots Q (F0 m (pc + 3) ls (.ref tA :: rest))) : W p l e R s m args below meth c H locs cells slots Q (F0 m pc ls rest) :=
  va_getsN hC.1 hC.2.1 hW.2.2.2.2.2.1 hW.2.2.2.1 hC.2.2.2.2.1 (va_Nw.use rfl (hW.2.2.2.2.2.2.2 _ hl)) (fun _ h9 => h9) hdg kk
def g_usedI : Nat → Int32 := fun j => ([1, 2, 2, 2, 2, 0, 1, 1, 0, 1, 3, 3, 0] : List Int32).getD j 0
theorem gs_tald (hC : g_C p s m meth c args cc maxL ret own) (hW : g_W tA dC dI cI cZ cJ A s H locs ws) {i v : Int32} (hr : g_rd 13 g_usedI i = some v) (hdg : decode cc pc = .ok (.iaload, 1))
    (kk : W p l e R s m args below meth c H locs cells slots Q (F0 m (pc + 1) ls (.int v :: rest))) : W p l e R s m args below meth c H locs cells slots Q (F0 m pc ls (.int i :: .ref tA :: rest)) := by
  obtain ⟨hin, rfl⟩ := g_rd_ok hr
  exact va_ti hC.1 hC.2.1 hW.2.2.2.2.2.2.1 hW.2.2.2.1 hin (f := g_used) rfl hdg kk
theorem g_ti {x k : Int32} {i : Int} (h : x.toInt = i) (hk : k.toInt = i) : x = k := Int32.toInt_inj.mp (h.trans hk.symm)
theorem gs_tblD {dflt lo hi : Int} {offs : Array Int} {len n : Nat} {x : Int32} {tgt : Nat} (hexec : p.tables.exec = Jvm.exec) (hb : c.code = cc) (hdg : decode cc pc = .ok (.tableswitch dflt lo hi offs, len)) (ht : (pc : Int) + dflt = (tgt : Int)) (hn : hi - lo + 1 = (n : Int)) (hall : ∀ j : Nat, j < n → x.toInt = lo + (j : Int) → offs[j]? = some dflt)
    (k : W p l e R s m args below meth c H locs cells slots Q (F0 m tgt ls rest)) : W p l e R s m args below meth c H locs cells slots Q (F0 m pc ls (.int x :: rest)) := by
  by_cases h1 : x.toInt < lo
  · exact lv_tableOut hexec hb hdg (Or.inl h1) ht k
  · by_cases h2 : hi < x.toInt
    · exact lv_tableOut hexec hb hdg (Or.inr h2) ht k
    · exact lv_tableIn hexec hb hdg h1 h2 (hall _ (by omega) (by omega)) ht k
theorem gs_ri {r : Int32} {ws' : va_W} (hC : g_C p s m meth c args cc maxL (some .int) own) (hW : g_W tA dC dI cI cZ cJ A s H locs ws) (hw : ws = ws') (hdg : decode cc pc = .ok (.ireturn, 1)) : W p l e R s m args below meth c H locs cells slots (MQ below (g_Qi dC dI cI cZ cJ A ws' r) args s cells slots A) (F0 m pc ls [.int r]) := by
  subst hw
  exact W.iret hC.1 hC.2.1 hC.2.2.1 (fun t ht hv => ⟨⟨r, (), rfl, rfl, by rw [ht]; exact hW.2.1, va_K.moved hv.alike hW.1, hW.2.2.1⟩, hW.2.2.2.1.F ht⟩) hW.2.2.2.1.2.2 hdg hC.2.2.2.2.2.2
theorem gs_rz {r : Int32} {ws' : va_W} (hC : g_C p s m meth c args cc maxL (some .boolean) own) (hW : g_W tA dC dI cI cZ cJ A s H locs ws) (hw : ws = ws') (hn : narrow .boolean (.int r) = .int r) (hdg : decode cc pc = .ok (.ireturn, 1)) : W p l e R s m args below meth c H locs cells slots (MQ below (g_Qi dC dI cI cZ cJ A ws' r) args s cells slots A) (F0 m pc ls [.int r]) := by
  subst hw
  exact W.zret hC.1 hC.2.1 hC.2.2.1 hn (fun t ht hv => ⟨⟨r, (), rfl, rfl, by rw [ht]; exact hW.2.1, va_K.moved hv.alike hW.1, hW.2.2.1⟩, hW.2.2.2.1.F ht⟩) hW.2.2.2.1.2.2 hdg hC.2.2.2.2.2.2
theorem gs_rv {ws' : va_W} (hC : g_C p s m meth c args cc maxL none own) (hW : g_W tA dC dI cI cZ cJ A s H locs ws) (hw : ws = ws') (hdg : decode cc pc = .ok (.return_, 1)) : W p l e R s m args below meth c H locs cells slots (MQ below (g_Qv dC dI cI cZ cJ A ws') args s cells slots A) (F0 m pc ls []) := by
  subst hw
  exact W.vret hC.1 hC.2.1 hC.2.2.1 (fun t ht hv => ⟨⟨(), rfl, trivial, by rw [ht]; exact hW.2.1, va_K.moved hv.alike hW.1, hW.2.2.1⟩, hW.2.2.2.1.F ht⟩) hW.2.2.2.1.2.2 hdg hC.2.2.2.2.2.2
end GB
section GE
variable {l : Launch} {y : MethodName} {rm : Room} {tA : Nat} {dC : Nat → ClassId} {dI : Nat → Nat → Nat} {cI cZ cJ : ClassId} {vs : List Value} {ws ws' : va_W} {r : Int32} {cc : ByteArray} {maxL : Nat} {ret : Option FieldType}
theorem ge_i (hy : plainName y.cls = true) (hn : (lg_sl vs).length ≤ maxL)
    (body : ∀ (p : Program) (e : Env) (s : State) (m : MethodId) (below : List Frame) (meth : Method) (c : Code) (A : Nat → Prop) (H : Heap) (locs : List Loc) (ls : Array Slot), g_C p s m meth c vs.toArray cc maxL ret y.cls → g_W tA dC dI cI cZ cJ A s H locs ws → lv_has ls maxL (lv_args 0 vs) →
      W p l e rm s m vs.toArray below meth c H locs 0 0 (MQ below (g_Qi dC dI cI cZ cJ A ws' r) vs.toArray s 0 0 A) (F0 m 0 ls [])) : g_Mi l y cc maxL ret rm tA dC dI cI cZ cJ vs ws ws' r := by
  intro sz
  refine Met.ofW (cc := cc) (maxL := maxL) (ret := ret) hy rfl ?_
  intro p e s m args below meth c s₁ B hml hv
  obtain ⟨rfl, hsz, hP, hK, hD0, hG0⟩ := hv
  subst hsz
  rw [lg_entry_eq]
  exact body p e s m below meth c _ s.heap [] _ ⟨B.exec, B.bytes, B.returns, hml, findClass_of_methodNamed B.named, fun w hw => atoms_spec (ws := Cond.code y cc maxL ret :: gw) B.pre w (List.mem_cons_of_mem _ hw), B.notSynchronized⟩ ⟨hK, hP, hD0.self (sz := s.heap.size), va_S.rf, fun q h => Or.inr h, hG0⟩ (lv_entry vs hn)
theorem ge_v (hy : plainName y.cls = true) (hn : (lg_sl vs).length ≤ maxL)
    (body : ∀ (p : Program) (e : Env) (s : State) (m : MethodId) (below : List Frame) (meth : Method) (c : Code) (A : Nat → Prop) (H : Heap) (locs : List Loc) (ls : Array Slot), g_C p s m meth c vs.toArray cc maxL ret y.cls → g_W tA dC dI cI cZ cJ A s H locs ws → lv_has ls maxL (lv_args 0 vs) →
      W p l e rm s m vs.toArray below meth c H locs 0 0 (MQ below (g_Qv dC dI cI cZ cJ A ws') vs.toArray s 0 0 A) (F0 m 0 ls [])) : g_Mv l y cc maxL ret rm tA dC dI cI cZ cJ vs ws ws' := by
  intro sz
  refine Met.ofW (cc := cc) (maxL := maxL) (ret := ret) hy rfl ?_
  intro p e s m args below meth c s₁ B hml hv
  obtain ⟨rfl, hsz, hP, hK, hD0, hG0⟩ := hv
  subst hsz
  rw [lg_entry_eq]
  exact body p e s m below meth c _ s.heap [] _ ⟨B.exec, B.bytes, B.returns, hml, findClass_of_methodNamed B.named, fun w hw => atoms_spec (ws := Cond.code y cc maxL ret :: gw) B.pre w (List.mem_cons_of_mem _ hw), B.notSynchronized⟩ ⟨hK, hP, hD0.self (sz := s.heap.size), va_S.rf, fun q h => Or.inr h, hG0⟩ (lv_entry vs hn)
theorem ge_iF (hy : plainFor y = true) (hn : (lg_sl vs).length ≤ maxL)
    (body : ∀ (p : Program) (e : Env) (s : State) (m : MethodId) (below : List Frame) (meth : Method) (c : Code) (A : Nat → Prop) (H : Heap) (locs : List Loc) (ls : Array Slot), g_C p s m meth c vs.toArray cc maxL ret y.cls → g_W tA dC dI cI cZ cJ A s H locs ws → lv_has ls maxL (lv_args 0 vs) →
      W p l e rm s m vs.toArray below meth c H locs 0 0 (MQ below (g_Qi dC dI cI cZ cJ A ws' r) vs.toArray s 0 0 A) (F0 m 0 ls [])) : g_Mi l y cc maxL ret rm tA dC dI cI cZ cJ vs ws ws' r := by
  intro sz
  refine va_MetF (cc := cc) (maxL := maxL) (ret := ret) hy rfl ?_
  intro p e s m args below meth c s₁ B hml hv
  obtain ⟨rfl, hsz, hP, hK, hD0, hG0⟩ := hv
  subst hsz
  rw [lg_entry_eq]
  exact body p e s m below meth c _ s.heap [] _ ⟨B.exec, B.bytes, B.returns, hml, findClass_of_methodNamed B.named, fun w hw => atoms_spec (ws := Cond.code y cc maxL ret :: gw) B.pre w (List.mem_cons_of_mem _ hw), B.notSynchronized⟩ ⟨hK, hP, hD0.self (sz := s.heap.size), va_S.rf, fun q h => Or.inr h, hG0⟩ (lv_entry vs hn)
end GE
