/-! ===== constructors: the cells in the order in which they come ===== -/
def cu (cs : Nat → va_E) (j : Nat) (e : va_E) : Nat → va_E := fun i => if i = j then e else cs i
theorem cu_eq {cs : Nat → va_E} {j : Nat} {e : va_E} : cu cs j e j = e := by simp [cu]
theorem cu_ne {cs : Nat → va_E} {j i : Nat} {e : va_E} (h : i ≠ j) : cu cs j e i = cs i := by simp [cu, h]
def kW (b n : Nat) (cs : Nat → va_E) : va_W := (List.range n).map (fun j => (b + j, cs j))
theorem kW_at {b n : Nat} {cs : Nat → va_E} {j : Nat} (h : j < n) : (kW b n cs)[j]? = some (b + j, cs j) := by
  unfold kW
  rw [List.getElem?_map, List.getElem?_range h]
  rfl
theorem kW_len {b n : Nat} {cs : Nat → va_E} : (kW b n cs).length = n := by simp [kW]
theorem kW_in {b n : Nat} {cs : Nat → va_E} {k : Nat} {q : Nat × va_E} (h : (kW b n cs)[k]? = some q) : k < n ∧ q = (b + k, cs k) := by
  have hk : k < n := by
    have := (List.getElem?_eq_some_iff.mp h).1
    rwa [kW_len] at this
  exact ⟨hk, (Option.some.inj ((kW_at hk).symm.trans h)).symm⟩
theorem cP_push {D : va_G} {b n : Nat} {cs : Nat → va_E} {e : va_E} {H H1 : Heap} (hP : va_P D fcls (kW b n cs) H) (ho : ∀ q : Nat, q < b + n → H1[q]? = H[q]?) (hnew : va_at D fcls (b + n, e) H1) : va_P D fcls (kW b (n + 1) (cu cs n e)) H1 := by
  intro k q hk
  obtain ⟨hk1, rfl⟩ := kW_in hk
  by_cases hkn : k = n
  · subst hkn
    rw [cu_eq]; exact hnew
  · rw [cu_ne hkn]
    exact (hP k _ (kW_at (by omega))).kept (ho (b + k) (by omega))
theorem cP_set {D : va_G} {b n j : Nat} {cs : Nat → va_E} {e : va_E} {H H1 : Heap} (hP : va_P D fcls (kW b n cs) H) (ho : ∀ q : Nat, q ≠ b + j → H1[q]? = H[q]?) (hnew : va_at D fcls (b + j, e) H1) : va_P D fcls (kW b n (cu cs j e)) H1 := by
  intro k q hk
  obtain ⟨hk1, rfl⟩ := kW_in hk
  by_cases hkn : k = j
  · subst hkn
    rw [cu_eq]; exact hnew
  · rw [cu_ne hkn]
    exact (hP k _ (kW_at (by omega))).kept (ho (b + k) (by omega))
/-- the words of constructors of nest mates -/
def cnst : List Cond := [.methodLinkNest RX0 20 yX3_init "LeanDiagonals", .methodLinkNest RX6 25 yX2_init "LeanDiagonals", .methodLinkNest RX2 17 yX3_init "LeanDiagonals", .methodLinkNest RX6 39 yX3_init "LeanDiagonals", .methodLinkNest RX6 46 yX5_init "LeanDiagonals", .methodLinkNest RX5 28 yX3_init "LeanDiagonals", .methodLinkNest RX6 67 yX4_init "LeanDiagonals"]
def cNw (U : State) : Prop := ∀ w ∈ cnst, va_Nw w U
theorem cnst_is {w : Cond} (h : w ∈ cnst) : ∃ a i x, w = .methodLinkNest a i x "LeanDiagonals" := by
  simp only [cnst, List.mem_cons, List.not_mem_nil, or_false] at h
  rcases h with rfl | rfl | rfl | rfl | rfl | rfl | rfl <;> exact ⟨_, _, _, rfl⟩
theorem cNw.warm {s U : State} (hW : s.WarmedH U.vm) (h : cNw s) : cNw U := fun w hw => by
  have h1 := h w hw
  obtain ⟨a, i, x, rfl⟩ := cnst_is hw
  exact va_Nw.warmM hW h1
theorem cNw.same {s U : State} (e : s.vm = U.vm) (h : cNw s) : cNw U := fun w hw => by
  have h1 := h w hw
  obtain ⟨a, i, x, rfl⟩ := cnst_is hw
  exact va_Nw.same rfl e h1
def cFx (g : fG) (U : State) : Prop := va_K g.2.1 fcls (fty g) U ∧ va_AO "LeanDiagonals$Setting" U ∧ va_AO "LeanDiagonals$Sheet" U ∧ ko_AO U ∧ cNw U
theorem cFx.warm {g : fG} {u U : State} (hW : u.WarmedH U.vm) (h : cFx g u) : cFx g U := ⟨va_K.moved hW.alike h.1, h.2.1.moved hW.alike, h.2.2.1.moved hW.alike, h.2.2.2.1.moved hW.alike, h.2.2.2.2.warm hW⟩
theorem cFx.same {g : fG} {u U : State} (e : u.vm = U.vm) (h : cFx g u) : cFx g U := by
  have hvm : u.vm.Alike U.vm := by rw [e]; exact Vm.Alike.refl U.vm
  exact ⟨va_K.moved hvm h.1, h.2.1.moved hvm, h.2.2.1.moved hvm, h.2.2.2.1.moved hvm, h.2.2.2.2.same e⟩
/-! contracts -/
def cQ (g : fG) (b n' : Nat) (cs' : Nat → va_E) : Array Value → State → Outcome → State → Prop := fun _ st oc t => (oc = .returned none ∧ t.heap.size = b + n' ∧ va_P g.2.1 fcls (kW b n' cs') t.heap) ∧ va_F (fun q => b ≤ q) st t
abbrev cR (Y : fY) (mc ms : Nat) : Room := { frames := Y.2.2.2.2.1, cells := mc, slots := ms, locals := Y.2.2.2.2.2 }
def cCt (g : fG) (Y : fY) (mc ms b j n : Nat) (cs : Nat → va_E) (n' : Nat) (cs' : Nat → va_E) : Prop :=
  Met g.1 Y.1 (fwd Y) (cR Y mc ms) (va_Pc [.ref (b + j)] (fun U => cFx g U ∧ U.heap.size = b + n ∧ va_P g.2.1 fcls (kW b n cs) U.heap)) (cQ g b n' cs') mc ms (fun q => b ≤ q)
def cEn (g : fG) (Y : fY) (b : Nat) (p : Program) (s : State) (m : MethodId) (args : Array Value) (meth : Method) (c : Code) : Prop :=
  p.tables.exec = Jvm.exec ∧ c.code = Y.2.1 ∧ meth.sig.returnType = Y.2.2.2.1 ∧ c.maxLocals = Y.2.2.1 ∧ s.vm.findClass Y.1.cls = some m.cls ∧ (∀ w ∈ ftb, w.before args s = true) ∧ meth.locks = false ∧ (Y.1.name = "<init>" → meth.name = "<init>") ∧ cFx g s ∧ b ≤ s.heap.size
/-- at a place of a constructor, with so many cells made -/
def cAt (g : fG) (Y : fY) (b : Nat) (R : Room) (Zf : List Frame → Array Value → State → State → Prop) (Ex : Program → State → MethodId → Array Value → Method → Code → Prop) (pc : Nat) (ls : List (Nat × Value)) (st : List Value) (kc ks n : Nat) (cs : Nat → va_E) : Prop :=
  ∀ (p : Program) (e : Env) (s : State) (m : MethodId) (args : Array Value) (below : List Frame) (meth : Method) (c : Code) (H : Heap) (locs : List Loc) (ar : Array Slot),
    cEn g Y b p s m args meth c → Ex p s m args meth c → H.size = b + n → va_P g.2.1 fcls (kW b n cs) H → va_S (fun q => b ≤ q) s.heap H locs → lv_has ar Y.2.2.1 ls →
    W p g.1 e R s m args below meth c H locs kc ks (Zf below args s) (F0 m pc ar st)
abbrev cZ (g : fG) (b n' : Nat) (cs' : Nat → va_E) (mc ms : Nat) : List Frame → Array Value → State → State → Prop := fun below args s => MQ below (cQ g b n' cs') args s mc ms (fun q => b ≤ q)
abbrev cE0 : Program → State → MethodId → Array Value → Method → Code → Prop := fun _ _ _ _ _ _ => True
def nLk (own : String) (ix ci N : Nat) (fs : List Value) : Prop := ∃ (C : String) (T : u_T) (ty : Nat → FieldType), fcls[ci]? = some (C, T, N) ∧ (∀ w ∈ u_ws C T N, w ∈ ftb) ∧ (∀ k, k < N → parseFieldDescriptor (T k).2.2.1 = some (ty k)) ∧ Cond.classLink own ix C ∈ ftb ∧ Cond.instantiable C N ∈ ftb ∧ Cond.initialized C ∈ ftb ∧ ∀ j, j < N → defaultValue (ty j) = vp_V fs j
def iLk (own : String) (ix : Nat) (Y' : fY) : Prop := Cond.methodLink own ix Y'.1 ∈ ftb ∧ Cond.instanceMethod Y'.1 ∈ ftb ∧ Cond.initialized Y'.1.cls ∈ ftb ∧ Cond.code Y'.1 Y'.2.1 Y'.2.2.1 Y'.2.2.2.1 ∈ ftb ∧ Y'.2.2.2.1 = none ∧ Y'.1.name = "<init>" ∧ Y'.1.cls ≠ "java/lang/invoke/MethodHandle" ∧ Y'.1.cls ≠ "java/lang/invoke/VarHandle" ∧ (parseMethodDescriptor Y'.1.desc).map (fun d => d.parameters.length) = some 0
def iNk (own : String) (ix : Nat) (Y' : fY) : Prop := Cond.methodLinkNest own ix Y'.1 "LeanDiagonals" ∈ cnst ∧ Cond.instanceMethod Y'.1 ∈ ftb ∧ Cond.initialized Y'.1.cls ∈ ftb ∧ Cond.code Y'.1 Y'.2.1 Y'.2.2.1 Y'.2.2.2.1 ∈ ftb ∧ Y'.2.2.2.1 = none ∧ Y'.1.name = "<init>" ∧ Y'.1.cls ≠ "java/lang/invoke/MethodHandle" ∧ Y'.1.cls ≠ "java/lang/invoke/VarHandle" ∧ (parseMethodDescriptor Y'.1.desc).map (fun d => d.parameters.length) = some 0
/-- a field that is written once, with a cell -/
def rLk (own : String) (ci f : Nat) : Prop := ∀ q, fcls[ci]? = some q → (q.2.1 f).2.2.2 = true ∧ (q.2.1 f).1 = own ∧ ∃ ty, parseFieldDescriptor (q.2.1 f).2.2.1 = some ty ∧ ∀ a : Nat, narrow ty (.ref a) = .ref a ∧ fits ty (.ref a) = true
section CN
variable {g : fG} {Y : fY} {mc ms b : Nat} {R : Room} {Zf : List Frame → Array Value → State → State → Prop} {Ex : Program → State → MethodId → Array Value → Method → Code → Prop} {pc : Nat} {ls : List (Nat × Value)} {st : List Value} {kc ks n : Nat} {cs : Nat → va_E}
theorem cCt_of {j n' : Nat} {cs' : Nat → va_E} (hy : plainName Y.1.cls = true) (hn : 1 ≤ Y.2.2.1) (hnm : Y.1.name = "<init>") (h : cAt g Y b (cR Y mc ms) (cZ g b n' cs' mc ms) cE0 0 [(0, .ref (b + j))] [] 0 0 n cs) : cCt g Y mc ms b j n cs n' cs' := by
  refine Met.ofW (cc := Y.2.1) (maxL := Y.2.2.1) (ret := Y.2.2.2.1) hy rfl ?_
  intro p e s m args below meth c s₁ B hml hv
  obtain ⟨rfl, hF, hz, hP⟩ := hv
  have hts := atoms_spec (ws := fwd Y) B.pre
  have hlv := lv_entry [Value.ref (b + j)] (n := Y.2.2.1) hn
  rw [lg_entry_eq]
  exact h p e s m _ below meth c s.heap [] _ ⟨B.exec, B.bytes, B.returns, hml, findClass_of_methodNamed B.named, fun w hw => hts w (List.mem_cons_of_mem _ hw), B.notSynchronized, fun _ => (name_of_methodNamed B.named B.method).1.trans hnm, hF, by omega⟩ trivial hz hP va_S.rf hlv
theorem cn_p {pc' : Nat} {st' : List Value} (kk : cAt g Y b R Zf Ex pc' ls st' kc ks n cs)
    (h : ∀ (p : Program) (e : Env) (s : State) (m : MethodId) (args : Array Value) (below : List Frame) (meth : Method) (c : Code) (H : Heap) (locs : List Loc) (ar : Array Slot) (Z : State → Prop), cEn g Y b p s m args meth c → va_P g.2.1 fcls (kW b n cs) H → lv_has ar Y.2.2.1 ls → W p g.1 e R s m args below meth c H locs kc ks Z (F0 m pc' ar st') → W p g.1 e R s m args below meth c H locs kc ks Z (F0 m pc ar st)) : cAt g Y b R Zf Ex pc ls st kc ks n cs :=
  fun p e s m args below meth c H locs ar hE hX hz hP hS hl => h p e s m args below meth c H locs ar _ hE hP hl (kk p e s m args below meth c H locs ar hE hX hz hP hS hl)
theorem cn_aload {k : Fin 4} {a : Nat} (q : Nat) (hd : decode Y.2.1 pc = .ok (.aload_n k, 1)) (hv : ls[q]? = some ((k : Nat), .ref a)) (kk : cAt g Y b R Zf Ex (pc + 1) ls (.ref a :: st) kc ks n cs) : cAt g Y b R Zf Ex pc ls st kc ks n cs :=
  cn_p kk (fun p e s m args below meth c H locs ar Z hE hP hl k => lv_aload_n hE.1 hE.2.1 hd rfl (lv_at hl q hv) k)
theorem cn_iload {k : Fin 4} {x : Int32} (q : Nat) (hd : decode Y.2.1 pc = .ok (.iload_n k, 1)) (hv : ls[q]? = some ((k : Nat), .int x)) (kk : cAt g Y b R Zf Ex (pc + 1) ls (.int x :: st) kc ks n cs) : cAt g Y b R Zf Ex pc ls st kc ks n cs :=
  cn_p kk (fun p e s m args below meth c H locs ar Z hE hP hl k => lv_iload_n hE.1 hE.2.1 hd rfl (lv_at hl q hv) k)
theorem cn_iconst {i : Int} (v : Int32) (hd : decode Y.2.1 pc = .ok (.iconst i, 1)) (hv : Int32.ofInt i = v) (kk : cAt g Y b R Zf Ex (pc + 1) ls (.int v :: st) kc ks n cs) : cAt g Y b R Zf Ex pc ls st kc ks n cs :=
  cn_p kk (fun p e s m args below meth c H locs ar Z hE hP hl k => lv_iconst hE.1 hE.2.1 hd hv k)
theorem cn_bipush {i : Int} (v : Int32) (hd : decode Y.2.1 pc = .ok (.bipush i, 2)) (hv : (Int8.ofInt i).toInt32 = v) (kk : cAt g Y b R Zf Ex (pc + 2) ls (.int v :: st) kc ks n cs) : cAt g Y b R Zf Ex pc ls st kc ks n cs :=
  cn_p kk (fun p e s m args below meth c H locs ar Z hE hP hl k => lv_bipush hE.1 hE.2.1 hd hv k)
theorem cn_sipush {i : Int} (v : Int32) (hd : decode Y.2.1 pc = .ok (.sipush i, 3)) (hv : (Int16.ofInt i).toInt32 = v) (kk : cAt g Y b R Zf Ex (pc + 3) ls (.int v :: st) kc ks n cs) : cAt g Y b R Zf Ex pc ls st kc ks n cs :=
  cn_p kk (fun p e s m args below meth c H locs ar Z hE hP hl k => lv_sipush hE.1 hE.2.1 hd hv k)
theorem cn_dup {a : Nat} (hd : decode Y.2.1 pc = .ok (.dup, 1)) (kk : cAt g Y b R Zf Ex (pc + 1) ls (.ref a :: .ref a :: st) kc ks n cs) : cAt g Y b R Zf Ex pc ls (.ref a :: st) kc ks n cs :=
  cn_p kk (fun p e s m args below meth c H locs ar Z hE hP hl k => lv_dup hE.1 hE.2.1 hd rfl k)
theorem cn_goto {off : Int} (tgt : Nat) (hd : decode Y.2.1 pc = .ok (.goto off, 3)) (ht : (pc : Int) + off = (tgt : Int)) (kk : cAt g Y b R Zf Ex tgt ls st kc ks n cs) : cAt g Y b R Zf Ex pc ls st kc ks n cs :=
  cn_p kk (fun p e s m args below meth c H locs ar Z hE hP hl k => lv_goto hE.1 hE.2.1 hd ht k)
theorem cn_ge_t {x y : Int32} {off : Int} (tgt : Nat) (hd : decode Y.2.1 pc = .ok (.if_icmp .ge off, 3)) (ht : (pc : Int) + off = (tgt : Int)) (h : y ≤ x) (kk : cAt g Y b R Zf Ex tgt ls st kc ks n cs) : cAt g Y b R Zf Ex pc ls (.int y :: .int x :: st) kc ks n cs :=
  cn_p kk (fun p e s m args below meth c H locs ar Z hE hP hl k => lv_icmp_ge hE.1 hE.2.1 hd ht (fun _ => k) (fun q => absurd h q))
theorem cn_ge_f {x y : Int32} {off : Int} (tgt : Nat) (hd : decode Y.2.1 pc = .ok (.if_icmp .ge off, 3)) (ht : (pc : Int) + off = (tgt : Int)) (h : ¬ y ≤ x) (kk : cAt g Y b R Zf Ex (pc + 3) ls st kc ks n cs) : cAt g Y b R Zf Ex pc ls (.int y :: .int x :: st) kc ks n cs :=
  cn_p kk (fun p e s m args below meth c H locs ar Z hE hP hl k => lv_icmp_ge hE.1 hE.2.1 hd ht (fun q => absurd q h) (fun _ => k))
theorem cn_istore {k : Fin 4} {x : Int32} {ls' : List (Nat × Value)} (hd : decode Y.2.1 pc = .ok (.istore_n k, 1)) (hn : (k : Nat) < Y.2.2.1) (hl' : ((k : Nat), Value.int x) :: ls.filter (fun q => !(q.1 == (k : Nat)) && !(q.1 + 1 == (k : Nat) && q.2.category == 2)) = ls') (kk : cAt g Y b R Zf Ex (pc + 1) ls' st kc ks n cs) : cAt g Y b R Zf Ex pc ls (.int x :: st) kc ks n cs :=
  fun p e s m args below meth c H locs ar hE hX hz hP hS hl => lv_istore_n hE.1 hE.2.1 hd rfl hl hn hl' (fun ar' hl2 => kk p e s m args below meth c H locs ar' hE hX hz hP hS hl2)
theorem cn_astore {k : Fin 4} {x : Nat} {ls' : List (Nat × Value)} (hd : decode Y.2.1 pc = .ok (.astore_n k, 1)) (hn : (k : Nat) < Y.2.2.1) (hl' : ((k : Nat), Value.ref x) :: ls.filter (fun q => !(q.1 == (k : Nat)) && !(q.1 + 1 == (k : Nat) && q.2.category == 2)) = ls') (kk : cAt g Y b R Zf Ex (pc + 1) ls' st kc ks n cs) : cAt g Y b R Zf Ex pc ls (.ref x :: st) kc ks n cs :=
  fun p e s m args below meth c H locs ar hE hX hz hP hS hl => lv_astore_n hE.1 hE.2.1 hd rfl hl hn hl' (fun ar' hl2 => kk p e s m args below meth c H locs ar' hE hX hz hP hS hl2)
theorem cn_iinc {i q : Nat} {d : Int} {x v : Int32} {ls' : List (Nat × Value)} (hd : decode Y.2.1 pc = .ok (.iinc i d, 3)) (hk : ls[q]? = some (i, .int x)) (hv : x + Int32.ofInt d = v) (hn : i < Y.2.2.1) (hl' : (i, Value.int v) :: ls.filter (fun q => !(q.1 == i) && !(q.1 + 1 == i && q.2.category == 2)) = ls') (kk : cAt g Y b R Zf Ex (pc + 3) ls' st kc ks n cs) : cAt g Y b R Zf Ex pc ls st kc ks n cs :=
  fun p e s m args below meth c H locs ar hE hX hz hP hS hl => lv_iinc hE.1 hE.2.1 hd hl hk hv hn hl' (fun ar' hl2 => kk p e s m args below meth c H locs ar' hE hX hz hP hS hl2)
theorem cn_w {k' s' m' : Nat} {cs2 : Nat → va_E} (h1 : kc = k') (h2 : ks = s') (h3 : n = m') (h4 : cs = cs2) (kk : cAt g Y b R Zf Ex pc ls st k' s' m' cs2) : cAt g Y b R Zf Ex pc ls st kc ks n cs := by
  subst h1; subst h2; subst h3; subst h4; exact kk
/-- Object.<init> -/
theorem cn_obj {a ix : Nat} (hd : decode Y.2.1 pc = .ok (.invokespecial ix, 3)) (h1 : Cond.methodLink Y.1.cls ix Lib.objectInit ∈ ftb) (h2 : Cond.instanceMethod Lib.objectInit ∈ ftb) (h3 : Cond.code Lib.objectInit ⟨#[0xb1]⟩ 1 none ∈ ftb) (hf : 1 ≤ R.frames) (hlo : (st.map fun v => v.category).sum + 12 ≤ R.locals) (kk : cAt g Y b R Zf Ex (pc + 3) ls st kc ks n cs) : cAt g Y b R Zf Ex pc ls (.ref a :: st) kc ks n cs :=
  cn_p kk (fun p e s m args below meth c H locs ar Z hE hP hl k => W.objInit hE.1 hE.2.1 hE.2.2.2.2.1 (hE.2.2.2.2.2.1 _ h1) (hE.2.2.2.2.2.1 _ h2) (hE.2.2.2.2.2.1 _ h3) rfl (hl.1.trans hE.2.2.2.1.symm) rfl hd hf (by show 2 * 0 + (st.map fun v => v.category).sum + 12 ≤ _; omega) k)
theorem cn_getr {ix ci f j a : Nat} {fs : List Value} (hd : decode Y.2.1 pc = .ok (.getfield ix, 3)) (hf : fFl Y.1.cls ix ci f) (hj : j < n) (hc : cs j = .inr (ci, fs)) (hv : fs[f]? = some (.ref a)) (kk : cAt g Y b R Zf Ex (pc + 3) ls (.ref a :: st) kc ks n cs) : cAt g Y b R Zf Ex pc ls (.ref (b + j) :: st) kc ks n cs := by
  refine cn_p kk (fun p e s m args below meth c H locs ar Z hE hP hl k => ?_)
  obtain ⟨C, T, N, ty, h1, h2, h3, h4, h5, h6, -⟩ := hf
  have hts := hE.2.2.2.2.2.1
  have he := kW_at (b := b) (n := n) (cs := cs) hj
  rw [hc] at he
  exact va_get (D := g.2.1) (ci := ci) (C := C) (T := T) (N := N) hE.1 hE.2.1 hts h2 hE.2.2.2.2.1 hE.2.2.2.2.2.2.2.2.1.1 hP j he h1 f h3 (hts _ h4) (fun _ h9 => h9) (v := .ref a) hv hd k
/-- a field of numbers -/
theorem cn_putI {ix ci f j : Nat} {x : Int32} {fs fs' : List Value} (hd : decode Y.2.1 pc = .ok (.putfield ix, 3)) (hf : fFl Y.1.cls ix ci f) (hfin : ∀ q, fcls[ci]? = some q → (q.2.1 f).2.2.2 = false) (hx : (∀ q, fcls[ci]? = some q → parseFieldDescriptor (q.2.1 f).2.2.1 = some .int) ∨ x = 0) (hj : j < n) (hc : cs j = .inr (ci, fs)) (hlen : f < fs.length) (hfs : fs.set f (.int x) = fs') (kk : cAt g Y b R Zf Ex (pc + 3) ls st kc ks n (cu cs j (.inr (ci, fs')))) : cAt g Y b R Zf Ex pc ls (.int x :: .ref (b + j) :: st) kc ks n cs := by
  subst hfs
  intro p e s m args below meth c H locs ar hE hX hz hP hS hl
  obtain ⟨C, T, N, ty, h1, h2, h3, h4, h5, h6, h7⟩ := hf
  have hts := hE.2.2.2.2.2.1
  have hK := hE.2.2.2.2.2.2.2.2.1.1
  have hfi : (T f).2.2.2 = false := hfin _ h1
  obtain ⟨t, ht1, ht2, ht3⟩ : ∃ t, parseFieldDescriptor (T f).2.2.1 = some t ∧ narrow t (.int x) = .int x ∧ fits t (.int x) = true := by
    rcases hx with hx | hx
    · exact ⟨.int, hx _ h1, rfl, rfl⟩
    · rcases h7 hfi with e | e
      · exact ⟨.int, by rw [h5 f h3, e], rfl, rfl⟩
      · exact ⟨.boolean, by rw [h5 f h3, e], by rw [hx]; rfl, by rw [hx]; rfl⟩
  have hap := va_apart (own := Y.1.cls) hts h2 ty h5 h6 hK h1
  have he := hP j _ (kW_at hj)
  rw [hc] at he
  obtain ⟨r, hr1, cell, q1, q2, q3, q4⟩ := he
  have hr : r = (C, T, N) := Option.some.inj (hr1.symm.trans h1)
  subst hr
  obtain ⟨hSl, hfc, kC, hkC, hkind⟩ := hK.1 ci _ h1
  obtain ⟨cf, kf, fi, ff, hi, hsl⟩ := hSl f h3
  have hlay := hts _ (h2 _ (u_in_lay h3))
  unfold u_lay at hlay
  rw [if_neg (by rw [hfi]; decide)] at hlay
  have hst := (u_facts hfc hkC (u_lays hts h2 h3) hi).1
  have hstore := u_store hfc hkC hkind hlay hi ht1 ht2 ht3
  refine W.putK hE.1 hE.2.1 (f := ff) ⟨hE.2.2.2.2.1, hts _ h4, ⟨_, _, _, hi⟩, hst⟩ (by rw [q2]; exact hstore) q1 q3 (by rw [hsl]; exact k2_hasslot (q4 f h3)) rfl rfl hd fun H' e1 e2 e3 => ?_
  rw [hsl] at e1
  exact kk p e s m args below meth c H' _ ar hE hX (e2.trans hz) (cP_set hP e3 ⟨_, h1, t_OB.to (V := updV (vp_V fs) f (.int x)) ⟨_, e1, q2, q3, t_set q4 hap h3 (.int x)⟩ (fun j _ => vp_updV_set hlen (.int x) j)⟩) (hS.put e2 e3 (Nat.le_add_right b j)) hl
/-- a field that holds a cell, and stays -/
theorem cn_putR {ix ci f j a : Nat} {fs fs' : List Value} (hd : decode Y.2.1 pc = .ok (.putfield ix, 3)) (hf : fFl Y.1.cls ix ci f) (hr : rLk Y.1.cls ci f) (hnm : Y.1.name = "<init>") (hj : j < n) (hc : cs j = .inr (ci, fs)) (hlen : f < fs.length) (hfs : fs.set f (.ref a) = fs') (kk : cAt g Y b R Zf Ex (pc + 3) ls st kc ks n (cu cs j (.inr (ci, fs')))) : cAt g Y b R Zf Ex pc ls (.ref a :: .ref (b + j) :: st) kc ks n cs := by
  subst hfs
  intro p e s m args below meth c H locs ar hE hX hz hP hS hl
  obtain ⟨C, T, N, ty, h1, h2, h3, h4, h5, h6, h7⟩ := hf
  have hts := hE.2.2.2.2.2.1
  have hK := hE.2.2.2.2.2.2.2.2.1.1
  obtain ⟨hfi, hdecl, t, ht1, ht4⟩ := hr _ h1
  have hap := va_apart (own := Y.1.cls) hts h2 ty h5 h6 hK h1
  have he := hP j _ (kW_at hj)
  rw [hc] at he
  obtain ⟨r, hr1, cell, q1, q2, q3, q4⟩ := he
  have hr : r = (C, T, N) := Option.some.inj (hr1.symm.trans h1)
  subst hr
  obtain ⟨hSl, hfc, kC, hkC, hkind⟩ := hK.1 ci _ h1
  obtain ⟨cf, kf, fi, ff, hi, hsl⟩ := hSl f h3
  have hlay := hts _ (h2 _ (u_in_lay h3))
  unfold u_lay at hlay
  have hfi' : (T f).2.2.2 = true := hfi
  rw [if_pos hfi'] at hlay
  have hst := (u_facts hfc hkC (u_lays hts h2 h3) hi).1
  have hcf : m.cls = cf := by
    obtain ⟨_, _, c', _, _, _, -, -, hf', -, -, -, hown2, -⟩ := Cond.laysFinal_spec hlay
    have e1 : c' = cf := by
      have := hi.symm.trans hf'
      simp at this
      exact this.1.symm
    have hd2 : (T f).1 = Y.1.cls := hdecl
    rw [hd2] at hown2
    rw [← e1]
    exact Option.some.inj (hE.2.2.2.2.1.symm.trans hown2)
  have hfit := u_fits hfc hkC hkind (Or.inr hlay) hi ht1 (ht4 a).1 (ht4 a).2
  refine W.putFinK hE.1 hE.2.1 hE.2.2.2.2.1 (hts _ h4) hi hst hcf (hE.2.2.2.2.2.2.2.1 hnm) (by rw [q2]; exact hfit) q1 q3 (by rw [hsl]; exact k2_hasslot (q4 f h3)) rfl rfl hd fun H' e1 e2 e3 => ?_
  rw [hsl] at e1
  exact kk p e s m args below meth c H' _ ar hE hX (e2.trans hz) (cP_set hP e3 ⟨_, h1, t_OB.to (V := updV (vp_V fs) f (.ref a)) ⟨_, e1, q2, q3, t_set q4 hap h3 (.ref a)⟩ (fun j _ => vp_updV_set hlen (.ref a) j)⟩) (hS.put e2 e3 (Nat.le_add_right b j)) hl
theorem cS_grow {s : State} {H H1 : Heap} {locs : List Loc} (hz : H.size = b + n) (hS : va_S (fun q => b ≤ q) s.heap H locs) (z : H.size ≤ H1.size) (o : ∀ q : Nat, q < b + n → H1[q]? = H[q]?) : va_S (fun q => b ≤ q) s.heap H1 locs := ⟨Nat.le_trans hS.1 z, fun q h1 h2 => (o q (by have := hS.1; omega)).trans (hS.2.1 q h1 h2), hS.2.2⟩
/-- a new object -/
theorem cn_new {ix ci N : Nat} {fs : List Value} (hd : decode Y.2.1 pc = .ok (.new ix, 3)) (hk : nLk Y.1.cls ix ci N fs) (hcells : kc + 1 ≤ R.cells) (hslots : ks + N ≤ R.slots) (kk : cAt g Y b R Zf Ex (pc + 3) ls (.ref (b + n) :: st) (kc + 1) (ks + N) (n + 1) (cu cs n (.inr (ci, fs)))) : cAt g Y b R Zf Ex pc ls st kc ks n cs := by
  intro p e s m args below meth c H locs ar hE hX hz hP hS hl
  obtain ⟨C, T, ty, h1, h2, h3, h4, h5, h6, h7⟩ := hk
  have hts := hE.2.2.2.2.2.1
  have hKn := hE.2.2.2.2.2.2.2.2.1.1.1 ci _ h1
  refine W.newcK hE.1 hE.2.1 hE.2.2.2.2.1 (hts _ h4) (hts _ h5) (hts _ h6) rfl hd hcells hslots hKn.2.1 hz fun H1 kC hkC e1 z1 o1 => ?_
  exact kk p e s m args below meth c H1 locs ar hE hX (by omega) (cP_push hP o1 ⟨_, h1, (u_born ty hts h2 hKn hkC e1 h3).to h7⟩) (cS_grow hz hS (by omega) o1) hl
/-- a new row of ints -/
theorem cn_newi {v : Int32} {N : Nat} (hd : decode Y.2.1 pc = .ok (.newarray .int, 2)) (hw : Cond.arrayClass .int ∈ ftb) (hv : ¬ v < 0) (hN : v.toNatClampNeg = N) (hby : N * 4 ≤ 536870912) (hcells : kc + 1 ≤ R.cells) (hslots : ks + N ≤ R.slots) (kk : cAt g Y b R Zf Ex (pc + 2) ls (.ref (b + n) :: st) (kc + 1) (ks + N) (n + 1) (cu cs n (.inl (g.2.2.2 0, N, .inl (fun _ => 0))))) : cAt g Y b R Zf Ex pc ls (.int v :: st) kc ks n cs := by
  intro p e s m args below meth c H locs ar hE hX hz hP hS hl
  refine va_newaK (atype := .int) (N := N) hE.1 hE.2.1 (hE.2.2.2.2.2.1 _ hw) rfl hd rfl hv hN hby hcells hslots hz fun H1 cA e1 z1 o1 hAr hNm => ?_
  have hc : cA = g.2.2.2 0 := Option.some.inj (hNm.symm.trans (hE.2.2.2.2.2.2.2.2.1.1.2 0 (g.2.2.2 0, .int) rfl).2)
  subst hc
  exact kk p e s m args below meth c H1 locs ar hE hX (by omega) (cP_push hP o1 e1) (cS_grow hz hS (by omega) o1) hl
/-- a new row of longs -/
theorem cn_newl {v : Int32} {N : Nat} (hd : decode Y.2.1 pc = .ok (.newarray .long, 2)) (hw : Cond.arrayClass .long ∈ ftb) (hv : ¬ v < 0) (hN : v.toNatClampNeg = N) (hby : N * 8 ≤ 536870912) (hcells : kc + 1 ≤ R.cells) (hslots : ks + N ≤ R.slots) (kk : cAt g Y b R Zf Ex (pc + 2) ls (.ref (b + n) :: st) (kc + 1) (ks + N) (n + 1) (cu cs n (.inl (g.2.2.2 1, N, .inr (.inl (fun _ => 0)))))) : cAt g Y b R Zf Ex pc ls (.int v :: st) kc ks n cs := by
  intro p e s m args below meth c H locs ar hE hX hz hP hS hl
  refine va_newaK (atype := .long) (N := N) hE.1 hE.2.1 (hE.2.2.2.2.2.1 _ hw) rfl hd rfl hv hN hby hcells hslots hz fun H1 cA e1 z1 o1 hAr hNm => ?_
  have hc : cA = g.2.2.2 1 := Option.some.inj (hNm.symm.trans (hE.2.2.2.2.2.2.2.2.1.1.2 1 (g.2.2.2 1, .long) rfl).2)
  subst hc
  exact kk p e s m args below meth c H1 locs ar hE hX (by omega) (cP_push hP o1 e1) (cS_grow hz hS (by omega) o1) hl
/-- a new row of cells -/
theorem cn_newq {v : Int32} {ix N t : Nat} {C : String} (hd : decode Y.2.1 pc = .ok (.anewarray ix, 3)) (hw : Cond.classLink Y.1.cls ix C ∈ ftb) (hao : ∀ U, cFx g U → va_AO C U ∧ ∃ (kA : Class) (comp : ClassId), U.vm.classes[g.2.2.2 t]? = some kA ∧ kA.kind = .array comp (.object C) ∧ U.vm.findClass C = some comp ∧ U.vm.findClass ("[" ++ (FieldType.object C).toString) = some (g.2.2.2 t)) (hv : ¬ v < 0) (hN : v.toNatClampNeg = N) (hby : N * 4 ≤ 536870912) (hcells : kc + 1 ≤ R.cells) (hslots : ks + N ≤ R.slots) (kk : cAt g Y b R Zf Ex (pc + 3) ls (.ref (b + n) :: st) (kc + 1) (ks + N) (n + 1) (cu cs n (.inl (g.2.2.2 t, N, .inr (.inr (.inr (.inr (fun _ => none)))))))) : cAt g Y b R Zf Ex pc ls (.int v :: st) kc ks n cs := by
  subst hN
  intro p e s m args below meth c H locs ar hE hX hz hP hS hl
  obtain ⟨ha, kA0, comp0, -, -, -, hf0⟩ := hao s hE.2.2.2.2.2.2.2.2.1
  refine W.anew hE.1 hE.2.1 hE.2.2.2.2.1 (hE.2.2.2.2.2.1 _ hw) (va_AO.use ha) rfl hd rfl hv hby hcells hslots fun cA kA comp f1 f2 f3 f4 => ?_
  have hc : cA = g.2.2.2 t := Option.some.inj (f1.symm.trans hf0)
  subst hc
  generalize hH1 : H.push ({ cls := g.2.2.2 t, slots := Array.replicate v.toNatClampNeg .null, vm := .none } : Cell) = H1
  have z1 : H1.size = H.size + 1 := by rw [← hH1, Array.size_push]
  have e1 : H1[b + n]? = some (arrV (g.2.2.2 t) v.toNatClampNeg (fun _ => .null)) := by rw [← hH1, ← hz, Array.getElem?_push_size, ← arrV_new]
  have o1 : ∀ q : Nat, q < b + n → H1[q]? = H[q]? := fun q hq => by rw [← hH1, Array.getElem?_push, if_neg (by omega)]
  rw [hz]
  exact kk p e s m args below meth c H1 locs ar hE hX (by omega) (cP_push hP o1 e1) (cS_grow hz hS (by omega) o1) hl
/-- a number into a row -/
theorem cn_iast {i x : Int32} {j N k : Nat} {f f' : Nat → Int32} (hd : decode Y.2.1 pc = .ok (.iastore, 1)) (hj : j < n) (hc : cs j = .inl (g.2.2.2 0, N, .inl f)) (hin : vp_in i N) (hk : i.toNatClampNeg = k) (hf : upd f k x = f') (kk : cAt g Y b R Zf Ex (pc + 1) ls st kc ks n (cu cs j (.inl (g.2.2.2 0, N, .inl f')))) : cAt g Y b R Zf Ex pc ls (.int x :: .int i :: .ref (b + j) :: st) kc ks n cs := by
  subst hk
  subst hf
  intro p e s m args below meth c H locs ar hE hX hz hP hS hl
  have he := hP j _ (kW_at hj)
  rw [hc] at he
  refine W.iast hE.1 hE.2.1 he ((hE.2.2.2.2.2.2.2.2.1.1.2 0 (g.2.2.2 0, .int) rfl).1 N (fun j => .int (f j))) (fun q => by cases q) (by show ¬ (i < 0 ∨ (arrV _ _ _).slots.size ≤ _); rw [arrV_size]; exact hin) rfl rfl hd fun H1 e1 z oq => ?_
  refine kk p e s m args below meth c H1 _ ar hE hX (z.trans hz) (cP_set hP oq ?_) (hS.put z oq (Nat.le_add_right b j)) hl
  show H1[b + j]? = some (vp_cell _ _)
  rw [e1, vp_cell_i, vp_cell_i, arrV_store]
  congr 2
  funext q
  by_cases hq : q = i.toNatClampNeg
  · subst hq
    simp [updV, upd]
  · simp [updV, upd, hq]
/-- a cell into a row -/
theorem cn_aast {i : Int32} {j j2 N k t ci : Nat} {r : vw_C} {vs : List Value} {f f' : Nat → Option Nat} (hd : decode Y.2.1 pc = .ok (.aastore, 1)) (hj : j < n) (hc : cs j = .inl (g.2.2.2 t, N, .inr (.inr (.inr (.inr f))))) (hj2 : j2 < n) (hc2 : cs j2 = .inr (ci, vs)) (hcl : fcls[ci]? = some r) (ht : (fty g)[t]? = some (g.2.2.2 t, .object r.1)) (hin : vp_in i N) (hk : i.toNatClampNeg = k) (hf : va_up f k (some (b + j2)) = f') (kk : cAt g Y b R Zf Ex (pc + 1) ls st kc ks n (cu cs j (.inl (g.2.2.2 t, N, .inr (.inr (.inr (.inr f'))))))) : cAt g Y b R Zf Ex pc ls (.ref (b + j2) :: .int i :: .ref (b + j) :: st) kc ks n cs := by
  subst hk
  subst hf
  intro p e s m args below meth c H locs ar hE hX hz hP hS hl
  have hK := hE.2.2.2.2.2.2.2.2.1.1
  have he := hP j _ (kW_at hj)
  rw [hc] at he
  have he2 := hP j2 _ (kW_at hj2)
  rw [hc2] at he2
  obtain ⟨r', hr', cellV, g1, g2, g3, -⟩ := he2
  have hcls := (hK.1 ci r hcl).2
  obtain ⟨kA, comp, k1, k2, k3, -⟩ := (hK.2 t _ ht).2
  have hcomp : comp = g.2.1.1 ci := Option.some.inj (k3.symm.trans hcls.1)
  subst hcomp
  obtain ⟨kC, hkC, -⟩ := hcls.2
  have hlt : i.toNatClampNeg < N := Nat.not_le.mp fun q => hin (Or.inr q)
  have h0 : ¬ i < 0 := fun q => hin (Or.inl q)
  refine W.aast hE.1 hE.2.1 he (fun q h => by cases h) (fun h => by cases h) k1 k2 rfl hkC ⟨h0, by show _ < (arrV _ _ _).slots.size; rw [arrV_size]; exact hlt⟩ g1 (fun q h => by rw [g3] at h; cases h) (by rw [g2]; exact hkC) (by rw [g2]; exact va_assign hcls) rfl rfl hd fun H1 e1 z oq => ?_
  refine kk p e s m args below meth c H1 _ ar hE hX (z.trans hz) (cP_set hP oq ?_) (hS.put z oq (Nat.le_add_right b j)) hl
  show H1[b + j]? = some (vp_cell _ _)
  rw [e1, vp_cell_q, vp_cell_q, arrV_store]
  congr 2
  funext q
  by_cases hq : q = i.toNatClampNeg
  · subst hq
    simp [updV, va_up, va_rf]
  · simp [updV, va_up, hq]
theorem cn_good {Y' : fY} (h : Cond.code Y'.1 Y'.2.1 Y'.2.2.1 Y'.2.2.2.1 ∈ ftb) : GoodIn ftb (fwd Y') := by
  intro w hw
  rcases List.mem_cons.mp hw with rfl | hw
  · exact ⟨h, good_of_word (ftb_good h)⟩
  · exact ⟨hw, good_of_word (ftb_good hw)⟩
theorem cn_run {Y' : fY} {j mc' ms' n1 : Nat} {cs1 : Nat → va_E} (kk : cAt g Y b R Zf Ex (pc + 3) ls st (kc + mc') (ks + ms') n1 cs1)
    (hr : ∀ (p : Program) (e : Env) (s : State) (m : MethodId) (args : Array Value) (below : List Frame) (meth : Method) (c : Code) (H : Heap) (locs : List Loc) (ar : Array Slot), cEn g Y b p s m args meth c → H.size = b + n → va_P g.2.1 fcls (kW b n cs) H → lv_has ar Y.2.2.1 ls → va_Run p g.1 e R s m args below meth c H locs kc ks mc' ms' (F0 m pc ar (.ref (b + j) :: st)) st (cQ g b n1 cs1 [Value.ref (b + j)].toArray) (fun q => b ≤ q)) : cAt g Y b R Zf Ex pc ls (.ref (b + j) :: st) kc ks n cs := by
  intro p e s m args below meth c H locs ar hE hX hz hP hS hl
  intro T hT X
  obtain ⟨v, st₀, t, T', L, h0, X', hL, e1, e2, ⟨⟨hv, hz1, hP1⟩, hzz, hkk⟩, stp⟩ := hr p e s m args below meth c H locs ar hE hz hP hl T hT X
  cases hv
  rw [h0] at hzz hkk
  obtain ⟨t2, a1, b1⟩ := kk p e s m args below meth c T'.heap (locs ++ L) ar hE hX (by rw [e1]; exact hz1) (by rw [e1]; exact hP1) ⟨Nat.le_trans hS.1 (by rw [e1]; exact hzz), fun q h1 h2 => by rw [e1, hkk q (Nat.lt_of_lt_of_le h1 hS.1) h2]; exact hS.2.1 q h1 h2, fun q hq => by
      rcases List.mem_append.mp hq with h | h
      · exact hS.2.2 q h
      · exact hL q h⟩ hl T' rfl X'
  exact ⟨t2, stp t2 a1, b1⟩
theorem cn_pre {s : State} {H : Heap} {j : Nat} (hF : cFx g s) (hz : H.size = b + n) (hP : va_P g.2.1 fcls (kW b n cs) H) : PreS s H (va_Pc [.ref (b + j)] (fun U => cFx g U ∧ U.heap.size = b + n ∧ va_P g.2.1 fcls (kW b n cs) U.heap)) (.ref (b + j) :: []) :=
  ⟨fun a U gg mk q => by
    obtain ⟨q0, q1, q2, q3⟩ := q
    exact ⟨q0, q1.same (u := U) (U := U.calling gg mk a) rfl, q2, q3⟩, fun U hU hW => ⟨rfl, hF.warm hW, by rw [hU]; exact hz, by rw [hU]; exact hP⟩⟩
/-- a constructor of another class -/
theorem cn_call {Y' : fY} {ix j mc' ms' n1 : Nat} {cs1 : Nat → va_E} (hd : decode Y.2.1 pc = .ok (.invokespecial ix, 3)) (hv : iLk Y.1.cls ix Y') (hct : cCt g Y' mc' ms' b j n cs n1 cs1) (hroom : Y'.2.2.2.2.1 + 1 ≤ R.frames ∧ 8 + (Y'.2.2.1 + 11) + Y'.2.2.2.2.2 ≤ R.locals) (hf : kc + mc' ≤ R.cells ∧ ks + ms' ≤ R.slots) (hcat : (st.map fun v => v.category).sum ≤ 8) (kk : cAt g Y b R Zf Ex (pc + 3) ls st (kc + mc') (ks + ms') n1 cs1) : cAt g Y b R Zf Ex pc ls (.ref (b + j) :: st) kc ks n cs := by
  refine cn_run (Y' := Y') kk (fun p e s m args below meth c H locs ar hE hz hP hl => ?_)
  obtain ⟨v1, v2, v3, v4, v5, v6, v7, v8, v9⟩ := hv
  have hts := hE.2.2.2.2.2.1
  have hw : fwd Y' = Cond.code Y'.1 Y'.2.1 Y'.2.2.1 none :: ftb := by unfold fwd; rw [v5]
  exact va_runI (As := []) (rest := st) (b := b + j) ⟨hE.1, hE.2.1, hE.2.2.2.1, hE.2.2.2.2.1, hts⟩ hct (cwI 0 hts (cn_good v4) hw rfl rfl (hts _ v3) (hts _ v1) (hts _ v2) v6 ⟨v7, v8, v9⟩ hroom) (cn_pre hE.2.2.2.2.2.2.2.2.1 hz hP) rfl rfl hl.1 rfl (lv_room hcat) hd hf
/-- a constructor of a nest mate -/
theorem cn_callN {Y' : fY} {ix j mc' ms' n1 : Nat} {cs1 : Nat → va_E} (hd : decode Y.2.1 pc = .ok (.invokespecial ix, 3)) (hv : iNk Y.1.cls ix Y') (hct : cCt g Y' mc' ms' b j n cs n1 cs1) (hroom : Y'.2.2.2.2.1 + 1 ≤ R.frames ∧ 8 + (Y'.2.2.1 + 11) + Y'.2.2.2.2.2 ≤ R.locals) (hf : kc + mc' ≤ R.cells ∧ ks + ms' ≤ R.slots) (hcat : (st.map fun v => v.category).sum ≤ 8) (kk : cAt g Y b R Zf Ex (pc + 3) ls st (kc + mc') (ks + ms') n1 cs1) : cAt g Y b R Zf Ex pc ls (.ref (b + j) :: st) kc ks n cs := by
  refine cn_run (Y' := Y') kk (fun p e s m args below meth c H locs ar hE hz hP hl => ?_)
  obtain ⟨v1, v2, v3, v4, v5, v6, v7, v8, v9⟩ := hv
  have hts := hE.2.2.2.2.2.1
  have hw : fwd Y' = Cond.code Y'.1 Y'.2.1 Y'.2.2.1 none :: ftb := by unfold fwd; rw [v5]
  exact va_runIN (As := []) (rest := st) (b := b + j) ⟨hE.1, hE.2.1, hE.2.2.2.1, hE.2.2.2.2.1, hts⟩ hct ⟨va_cnB 0 hts (cn_good v4) hw rfl rfl (hE.2.2.2.2.2.2.2.2.1.2.2.2.2 _ v1) (hts _ v3) ⟨v7, v8, v9⟩ hroom, v6, hts _ v2⟩ (cn_pre hE.2.2.2.2.2.2.2.2.1 hz hP) rfl rfl hl.1 rfl (lv_room hcat) hd hf
theorem cn_ret (hd : decode Y.2.1 pc = .ok (.return_, 1)) (hr : Y.2.2.2.1 = none) : cAt g Y b R (cZ g b n cs mc ms) Ex pc ls [] mc ms n cs := fun p e s m args below meth c H locs ar hE hX hz hP hS hl =>
  have hlocks := hE.2.2.2.2.2.2.1
  W.vret hE.1 hE.2.1 (hE.2.2.1.trans hr) (fun t ht hW => ⟨⟨rfl, by rw [ht]; exact hz, by rw [ht]; exact hP⟩, hS.F ht⟩) hS.2.2 hd hlocks
end CN
