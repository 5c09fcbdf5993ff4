/-! ===== the judgement: at a place of a method, with locals, stack and store, the method comes to an end with Q ===== -/
def fwd (Y : fY) : List Cond := .code Y.1 Y.2.1 Y.2.2.1 Y.2.2.2.1 :: ftb
def frm (Y : fY) : Room := { frames := Y.2.2.2.2.1, cells := 0, slots := 0, locals := Y.2.2.2.2.2 }
/-- the words of nest mates -/
def fnst : List Cond := [.methodLinkNest "LeanDiagonals$Wipes" 50 ⟨"LeanDiagonals", "power", "(JI)J"⟩ "LeanDiagonals"]
def fNw (U : State) : Prop := ∀ w ∈ fnst, va_Nw w U
def fEn (g : fG) (Y : fY) (p : Program) (s : State) (m : MethodId) (args : Array Value) (meth : Method) (c : Code) : Prop :=
  p.tables.exec = Jvm.exec ∧ c.code = Y.2.1 ∧ meth.sig.returnType = Y.2.2.2.1 ∧ c.maxLocals = Y.2.2.1 ∧ s.vm.findClass Y.1.cls = some m.cls ∧ (∀ w ∈ fwd Y, w.before args s = true) ∧ meth.locks = false ∧ va_K g.2.1 fcls (fty g) s ∧ fNw s ∧ fInj g
def fQc (g : fG) (Q : Option fV → fM → Prop) : Array Value → State → Outcome → State → Prop := fun _ st oc t =>
  (∃ (r : Option fV) (M' : fM), oc = .returned (r.map (fMv g)) ∧ Q r M' ∧ (∀ v, r = some v → fR v) ∧ fRM M' ∧ va_P g.2.1 fcls (fws g M') t.heap) ∧ va_F (fA g) st t
def fAt (g : fG) (Y : fY) (pc : Nat) (ls : List (Option fV)) (st : List fV) (M : fM) (Q : Option fV → fM → Prop) : Prop :=
  fRV ls st M → ∀ (p : Program) (e : Env) (s : State) (m : MethodId) (args : Array Value) (below : List Frame) (meth : Method) (c : Code) (H : Heap) (locs : List Loc) (ar : Array Slot),
    fEn g Y p s m args meth c → va_P g.2.1 fcls (fws g M) H → va_S (fA g) s.heap H locs → lv_has ar Y.2.2.1 (fas g 0 ls) →
    W p g.1 e (frm Y) s m args below meth c H locs 0 0 (MQ below (fQc g Q) args s 0 0 (fA g)) (F0 m pc ar (st.map (fMv g)))
/-- a method's contract at these arguments and this store -/
def fCt (g : fG) (Y : fY) (av : List fV) (M : fM) (Q : Option fV → fM → Prop) : Prop :=
  fInj g → fRs av → fRM M → Met g.1 Y.1 (fwd Y) (frm Y) (va_Pc (av.map (fMv g)) (fun U => va_K g.2.1 fcls (fty g) U ∧ fNw U ∧ va_P g.2.1 fcls (fws g M) U.heap)) (fQc g Q) 0 0 (fA g)
section FM1
variable {g : fG} {Y : fY} {pc : Nat} {ls : List (Option fV)} {st : List fV} {M : fM} {Q : Option fV → fM → Prop}
theorem fCt_of (av : List fV) (ls : List (Option fV)) (hy : plainName Y.1.cls = true) (hn : (lg_sl (av.map (fMv g))).length ≤ Y.2.2.1) (hl : lv_args 0 (av.map (fMv g)) = fas g 0 ls) (hr : fRs av → fRl ls) (h : fAt g Y 0 ls [] M Q) : fCt g Y av M Q := by
  intro hg hR hM
  refine Met.ofW (cc := Y.2.1) (maxL := Y.2.2.1) (ret := Y.2.2.2.1) hy rfl ?_
  intro p e s m args below meth c s₁ B hml hv
  obtain ⟨rfl, hK, hN, hP⟩ := hv
  have hts := atoms_spec (ws := fwd Y) B.pre
  have hlv := lv_entry (av.map (fMv g)) (n := Y.2.2.1) hn
  rw [hl] at hlv
  rw [lg_entry_eq]
  exact h ⟨hr hR, trivial, hM⟩ p e s m _ below meth c s.heap [] _ ⟨B.exec, B.bytes, B.returns, hml, findClass_of_methodNamed B.named, hts, B.notSynchronized, hK, hN, hg⟩ hP va_S.rf hlv
/-- the ranges of what is there may be used -/
theorem fAt_r (h : fRV ls st M → fAt g Y pc ls st M Q) : fAt g Y pc ls st M Q := fun hR => h hR hR
theorem fAt_ri {x : Int} (h : R32 x → fAt g Y pc ls (vi x :: st) M Q) : fAt g Y pc ls (vi x :: st) M Q := fun hR => h hR.2.1.1 hR
theorem fAt_rl {x : Int} (h : R64 x → fAt g Y pc ls (vl x :: st) M Q) : fAt g Y pc ls (vl x :: st) M Q := fun hR => h hR.2.1.1 hR
theorem fAt_rk {x : Int} (k : Nat) (hv : ls[k]? = some (some (vi x))) (h : R32 x → fAt g Y pc ls st M Q) : fAt g Y pc ls st M Q := fun hR => h (fRl_get hR.1 hv) hR
theorem fAt_rkl {x : Int} (k : Nat) (hv : ls[k]? = some (some (vl x))) (h : R64 x → fAt g Y pc ls st M Q) : fAt g Y pc ls st M Q := fun hR => h (fRl_get hR.1 hv) hR
/-- fewer locals -/
theorem fAt_w {ls' : List (Option fV)} (hs : ∀ (k : Nat) (v : fV), ls'[k]? = some (some v) → ls[k]? = some (some v)) (hr : fRl ls → fRl ls') (h : fAt g Y pc ls' st M Q) : fAt g Y pc ls st M Q := by
  intro hR p e s m args below meth c H locs ar hE hP hS hl
  refine h ⟨hr hR.1, hR.2⟩ p e s m args below meth c H locs ar hE hP hS ⟨hl.1, hl.2.1, fun q hq => ?_⟩
  obtain ⟨j, w, h1, h2⟩ := (fas_mem g ls' 0 q).mp hq
  exact hl.2.2 q ((fas_mem g ls 0 q).mpr ⟨j, w, hs j w h1, h2⟩)
theorem fAt_del (k : Nat) {ls' : List (Option fV)} (hl : ls.set k none = ls') (h : fAt g Y pc ls' st M Q) : fAt g Y pc ls st M Q := by
  refine fAt_w (ls' := ls') (fun j v hj => ?_) (fun hr => by rw [← hl]; exact fRl_del hr) h
  rw [← hl] at hj
  by_cases e : j = k
  · subst e
    rw [List.getElem?_set_self (by have := (List.getElem?_eq_some_iff.mp hj).1; simpa using this)] at hj
    cases hj
  · rw [List.getElem?_set_ne (Ne.symm e)] at hj
    exact hj
theorem fAt_p {pc' : Nat} {st' : List fV} (kk : fAt g Y pc' ls st' M Q) (hr : fRV ls st M → fRs st')
    (h : fRV ls st M → ∀ (p : Program) (e : Env) (s : State) (m : MethodId) (args : Array Value) (below : List Frame) (meth : Method) (c : Code) (H : Heap) (locs : List Loc) (ar : Array Slot) (Z : State → Prop), fEn g Y p s m args meth c → lv_has ar Y.2.2.1 (fas g 0 ls) → W p g.1 e (frm Y) s m args below meth c H locs 0 0 Z (F0 m pc' ar (st'.map (fMv g))) → W p g.1 e (frm Y) s m args below meth c H locs 0 0 Z (F0 m pc ar (st.map (fMv g)))) : fAt g Y pc ls st M Q := by
  intro hR p e s m args below meth c H locs ar hE hP hS hl
  exact h hR p e s m args below meth c H locs ar _ hE hl (kk ⟨hR.1, hr hR, hR.2.2⟩ p e s m args below meth c H locs ar hE hP hS hl)
/-! constants -/
theorem st_iconst {n : Int} (hd : decode Y.2.1 pc = .ok (.iconst n, 1)) (h : R32 n) (kk : fAt g Y (pc + 1) ls (vi n :: st) M Q) : fAt g Y pc ls st M Q :=
  fAt_p kk (fun hR => ⟨h, hR.2.1⟩) (fun _ p e s m args below meth c H locs ar Z hE hl k => lv_iconst hE.1 hE.2.1 hd rfl k)
theorem st_bipush {n : Int} (hd : decode Y.2.1 pc = .ok (.bipush n, 2)) (h : -128 ≤ n ∧ n ≤ 127) (kk : fAt g Y (pc + 2) ls (vi n :: st) M Q) : fAt g Y pc ls st M Q :=
  fAt_p kk (fun hR => ⟨show R32 n by omega, hR.2.1⟩) (fun _ p e s m args below meth c H locs ar Z hE hl k => lv_bipush hE.1 hE.2.1 hd (Int32.toInt_inj.mp (by rw [Int8.toInt_toInt32, Int8.toInt_ofInt_of_le (by omega) (by omega), r32_ti (by omega)])) k)
theorem st_sipush {n : Int} (hd : decode Y.2.1 pc = .ok (.sipush n, 3)) (h : -32768 ≤ n ∧ n ≤ 32767) (kk : fAt g Y (pc + 3) ls (vi n :: st) M Q) : fAt g Y pc ls st M Q :=
  fAt_p kk (fun hR => ⟨show R32 n by omega, hR.2.1⟩) (fun _ p e s m args below meth c H locs ar Z hE hl k => lv_sipush hE.1 hE.2.1 hd (Int32.toInt_inj.mp (by rw [Int16.toInt_toInt32, Int16.toInt_ofInt_of_le (by omega) (by omega), r32_ti (by omega)])) k)
theorem st_lconst0 (hd : decode Y.2.1 pc = .ok (.lconst 0, 1)) (kk : fAt g Y (pc + 1) ls (vl 0 :: st) M Q) : fAt g Y pc ls st M Q :=
  fAt_p kk (fun hR => ⟨⟨by decide, by decide⟩, hR.2.1⟩) (fun _ p e s m args below meth c H locs ar Z hE hl k => lv_lconst hE.1 hE.2.1 hd rfl k)
theorem st_lconst1 (hd : decode Y.2.1 pc = .ok (.lconst 1, 1)) (kk : fAt g Y (pc + 1) ls (vl 1 :: st) M Q) : fAt g Y pc ls st M Q :=
  fAt_p kk (fun hR => ⟨⟨by decide, by decide⟩, hR.2.1⟩) (fun _ p e s m args below meth c H locs ar Z hE hl k => lv_lconst hE.1 hE.2.1 hd rfl k)
theorem st_ldc {ix : Nat} {v : Int32} (n : Int) (hd : decode Y.2.1 pc = .ok (.ldc ix, 2)) (hw : Cond.constant Y.1.cls ix v ∈ ftb) (hv : v.toInt = n) (kk : fAt g Y (pc + 2) ls (vi n :: st) M Q) : fAt g Y pc ls st M Q :=
  fAt_p kk (fun hR => ⟨hv ▸ r32_in v, hR.2.1⟩) (fun _ p e s m args below meth c H locs ar Z hE hl k => lv_ldc hE.1 hE.2.1 hE.2.2.2.2.1 (hE.2.2.2.2.2.1 _ (List.mem_cons_of_mem _ hw)) hd (by rw [← Int32.ofInt_toInt v, hv]; exact k))
theorem st_ldc2 {ix : Nat} {v : Int64} (n : Int) (hd : decode Y.2.1 pc = .ok (.ldc2_w ix, 3)) (hw : Cond.constantLong Y.1.cls ix v ∈ ftb) (hv : v.toInt = n) (kk : fAt g Y (pc + 3) ls (vl n :: st) M Q) : fAt g Y pc ls st M Q :=
  fAt_p kk (fun hR => ⟨hv ▸ r64_in v, hR.2.1⟩) (fun _ p e s m args below meth c H locs ar Z hE hl k => lv_ldc2 hE.1 hE.2.1 hE.2.2.2.2.1 (hE.2.2.2.2.2.1 _ (List.mem_cons_of_mem _ hw)) hd (by rw [← Int64.ofInt_toInt v, hv]; exact k))
/-! locals -/
theorem st_iload_n {k : Fin 4} {x : Int} (hd : decode Y.2.1 pc = .ok (.iload_n k, 1)) (hv : ls[(k : Nat)]? = some (some (vi x))) (kk : fAt g Y (pc + 1) ls (vi x :: st) M Q) : fAt g Y pc ls st M Q :=
  fAt_p kk (fun hR => ⟨fRl_get hR.1 hv, hR.2.1⟩) (fun _ p e s m args below meth c H locs ar Z hE hl q => lv_iload_n hE.1 hE.2.1 hd rfl (fas_get hl hv) q)
theorem st_iload {k : Nat} {x : Int} (hd : decode Y.2.1 pc = .ok (.iload k, 2)) (hv : ls[k]? = some (some (vi x))) (kk : fAt g Y (pc + 2) ls (vi x :: st) M Q) : fAt g Y pc ls st M Q :=
  fAt_p kk (fun hR => ⟨fRl_get hR.1 hv, hR.2.1⟩) (fun _ p e s m args below meth c H locs ar Z hE hl q => lv_iload hE.1 hE.2.1 hd (fas_get hl hv) q)
theorem st_lload_n {k : Fin 4} {x : Int} (hd : decode Y.2.1 pc = .ok (.lload_n k, 1)) (hv : ls[(k : Nat)]? = some (some (vl x))) (kk : fAt g Y (pc + 1) ls (vl x :: st) M Q) : fAt g Y pc ls st M Q :=
  fAt_p kk (fun hR => ⟨fRl_get hR.1 hv, hR.2.1⟩) (fun _ p e s m args below meth c H locs ar Z hE hl q => lv_lload_n hE.1 hE.2.1 hd rfl (fas_get hl hv) q)
theorem st_lload {k : Nat} {x : Int} (hd : decode Y.2.1 pc = .ok (.lload k, 2)) (hv : ls[k]? = some (some (vl x))) (kk : fAt g Y (pc + 2) ls (vl x :: st) M Q) : fAt g Y pc ls st M Q :=
  fAt_p kk (fun hR => ⟨fRl_get hR.1 hv, hR.2.1⟩) (fun _ p e s m args below meth c H locs ar Z hE hl q => lv_lload hE.1 hE.2.1 hd (fas_get hl hv) q)
theorem st_aload_n {k : Fin 4} {a b : Nat} (hd : decode Y.2.1 pc = .ok (.aload_n k, 1)) (hv : ls[(k : Nat)]? = some (some (vr a b))) (kk : fAt g Y (pc + 1) ls (vr a b :: st) M Q) : fAt g Y pc ls st M Q :=
  fAt_p kk (fun hR => ⟨fRl_get hR.1 hv, hR.2.1⟩) (fun _ p e s m args below meth c H locs ar Z hE hl q => lv_aload_n hE.1 hE.2.1 hd rfl (fas_get hl hv) q)
theorem st_aload {k : Nat} {a b : Nat} (hd : decode Y.2.1 pc = .ok (.aload k, 2)) (hv : ls[k]? = some (some (vr a b))) (kk : fAt g Y (pc + 2) ls (vr a b :: st) M Q) : fAt g Y pc ls st M Q :=
  fAt_p kk (fun hR => ⟨fRl_get hR.1 hv, hR.2.1⟩) (fun _ p e s m args below meth c H locs ar Z hE hl q => lv_aload hE.1 hE.2.1 hd (fas_get hl hv) q)
theorem st_istore_n {k : Fin 4} {x : Int} {ls' : List (Option fV)} (hd : decode Y.2.1 pc = .ok (.istore_n k, 1)) (hn : (k : Nat) < Y.2.2.1) (hk : fnl ls k = true) (hs : ls.set k (some (vi x)) = ls') (kk : fAt g Y (pc + 1) ls' st M Q) : fAt g Y pc ls (vi x :: st) M Q := by
  intro hR p e s m args below meth c H locs ar hE hP hS hl
  refine lv_istore_n hE.1 hE.2.1 hd rfl hl hn rfl (fun ar' hl' => ?_)
  have hl2 := fas_st1 (g := g) (v := vi x) hk hl'
  rw [hs] at hl2
  exact kk ⟨by rw [← hs]; exact fRl_set hR.1 hR.2.1.1, hR.2.1.2, hR.2.2⟩ p e s m args below meth c H locs ar' hE hP hS hl2
theorem st_istore {k : Nat} {x : Int} {ls' : List (Option fV)} (hd : decode Y.2.1 pc = .ok (.istore k, 2)) (hn : k < Y.2.2.1) (hk : fnl ls k = true) (hs : ls.set k (some (vi x)) = ls') (kk : fAt g Y (pc + 2) ls' st M Q) : fAt g Y pc ls (vi x :: st) M Q := by
  intro hR p e s m args below meth c H locs ar hE hP hS hl
  refine lv_istore hE.1 hE.2.1 hd hl hn rfl (fun ar' hl' => ?_)
  have hl2 := fas_st1 (g := g) (v := vi x) hk hl'
  rw [hs] at hl2
  exact kk ⟨by rw [← hs]; exact fRl_set hR.1 hR.2.1.1, hR.2.1.2, hR.2.2⟩ p e s m args below meth c H locs ar' hE hP hS hl2
theorem st_astore_n {k : Fin 4} {a b : Nat} {ls' : List (Option fV)} (hd : decode Y.2.1 pc = .ok (.astore_n k, 1)) (hn : (k : Nat) < Y.2.2.1) (hk : fnl ls k = true) (hs : ls.set k (some (vr a b)) = ls') (kk : fAt g Y (pc + 1) ls' st M Q) : fAt g Y pc ls (vr a b :: st) M Q := by
  intro hR p e s m args below meth c H locs ar hE hP hS hl
  refine lv_astore_n hE.1 hE.2.1 hd rfl hl hn rfl (fun ar' hl' => ?_)
  have hl2 := fas_st1 (g := g) (v := vr a b) hk hl'
  rw [hs] at hl2
  exact kk ⟨by rw [← hs]; exact fRl_set hR.1 hR.2.1.1, hR.2.1.2, hR.2.2⟩ p e s m args below meth c H locs ar' hE hP hS hl2
theorem st_astore {k : Nat} {a b : Nat} {ls' : List (Option fV)} (hd : decode Y.2.1 pc = .ok (.astore k, 2)) (hn : k < Y.2.2.1) (hk : fnl ls k = true) (hs : ls.set k (some (vr a b)) = ls') (kk : fAt g Y (pc + 2) ls' st M Q) : fAt g Y pc ls (vr a b :: st) M Q := by
  intro hR p e s m args below meth c H locs ar hE hP hS hl
  refine lv_astore hE.1 hE.2.1 hd hl hn rfl (fun ar' hl' => ?_)
  have hl2 := fas_st1 (g := g) (v := vr a b) hk hl'
  rw [hs] at hl2
  exact kk ⟨by rw [← hs]; exact fRl_set hR.1 hR.2.1.1, hR.2.1.2, hR.2.2⟩ p e s m args below meth c H locs ar' hE hP hS hl2
theorem st_lstore_n {k : Fin 4} {x : Int} {ls' : List (Option fV)} (hd : decode Y.2.1 pc = .ok (.lstore_n k, 1)) (hn : (k : Nat) + 1 < Y.2.2.1) (hk : fnl ls k = true) (hs : (ls.set k (some (vl x))).set (k + 1) none = ls') (kk : fAt g Y (pc + 1) ls' st M Q) : fAt g Y pc ls (vl x :: st) M Q := by
  intro hR p e s m args below meth c H locs ar hE hP hS hl
  refine lv_lstore_n hE.1 hE.2.1 hd rfl hl hn rfl (fun ar' hl' => ?_)
  have hl2 := fas_st2 (g := g) (v := vl x) hk hl'
  rw [hs] at hl2
  exact kk ⟨by rw [← hs]; exact fRl_del (fRl_set hR.1 hR.2.1.1), hR.2.1.2, hR.2.2⟩ p e s m args below meth c H locs ar' hE hP hS hl2
theorem st_lstore {k : Nat} {x : Int} {ls' : List (Option fV)} (hd : decode Y.2.1 pc = .ok (.lstore k, 2)) (hn : k + 1 < Y.2.2.1) (hk : fnl ls k = true) (hs : (ls.set k (some (vl x))).set (k + 1) none = ls') (kk : fAt g Y (pc + 2) ls' st M Q) : fAt g Y pc ls (vl x :: st) M Q := by
  intro hR p e s m args below meth c H locs ar hE hP hS hl
  refine lv_lstore hE.1 hE.2.1 hd hl hn rfl (fun ar' hl' => ?_)
  have hl2 := fas_st2 (g := g) (v := vl x) hk hl'
  rw [hs] at hl2
  exact kk ⟨by rw [← hs]; exact fRl_del (fRl_set hR.1 hR.2.1.1), hR.2.1.2, hR.2.2⟩ p e s m args below meth c H locs ar' hE hP hS hl2
theorem st_iinc {k : Nat} {n x : Int} {ls' : List (Option fV)} (hd : decode Y.2.1 pc = .ok (.iinc k n, 3)) (hv : ls[k]? = some (some (vi x))) (h : R32 (x + n)) (hn : k < Y.2.2.1) (hk : fnl ls k = true) (hs : ls.set k (some (vi (x + n))) = ls') (kk : fAt g Y (pc + 3) ls' st M Q) : fAt g Y pc ls st M Q := by
  intro hR p e s m args below meth c H locs ar hE hP hS hl
  obtain ⟨j, hj⟩ := List.getElem?_of_mem ((fas_mem g ls 0 (k, fMv g (vi x))).mpr ⟨k, vi x, hv, by simp⟩)
  refine lv_iinc hE.1 hE.2.1 hd hl (k := j) hj (v := Int32.ofInt (x + n)) (by rw [Int32.ofInt_add]) hn rfl (fun ar' hl' => ?_)
  have hl2 := fas_st1 (g := g) (v := vi (x + n)) hk hl'
  rw [hs] at hl2
  exact kk ⟨by rw [← hs]; exact fRl_set hR.1 h, hR.2.1, hR.2.2⟩ p e s m args below meth c H locs ar' hE hP hS hl2
/-! arithmetic -/
theorem st_iadd {x y : Int} (hd : decode Y.2.1 pc = .ok (.iadd, 1)) (h : R32 (x + y)) (kk : fAt g Y (pc + 1) ls (vi (x + y) :: st) M Q) : fAt g Y pc ls (vi y :: vi x :: st) M Q :=
  fAt_p kk (fun hR => ⟨h, hR.2.1.2.2⟩) (fun _ p e s m args below meth c H locs ar Z hE hl k => lv_iadd hE.1 hE.2.1 hd (by rw [← Int32.ofInt_add]; exact k))
theorem st_isub {x y : Int} (hd : decode Y.2.1 pc = .ok (.isub, 1)) (h : R32 (x - y)) (kk : fAt g Y (pc + 1) ls (vi (x - y) :: st) M Q) : fAt g Y pc ls (vi y :: vi x :: st) M Q :=
  fAt_p kk (fun hR => ⟨h, hR.2.1.2.2⟩) (fun _ p e s m args below meth c H locs ar Z hE hl k => lv_isub hE.1 hE.2.1 hd (by rw [← Int32.ofInt_sub]; exact k))
theorem st_imul {x y : Int} (hd : decode Y.2.1 pc = .ok (.imul, 1)) (h : R32 (x * y)) (kk : fAt g Y (pc + 1) ls (vi (x * y) :: st) M Q) : fAt g Y pc ls (vi y :: vi x :: st) M Q :=
  fAt_p kk (fun hR => ⟨h, hR.2.1.2.2⟩) (fun _ p e s m args below meth c H locs ar Z hE hl k => lv_imul hE.1 hE.2.1 hd (by rw [← Int32.ofInt_mul]; exact k))
theorem r32_mod {x y : Int} (hx : 0 ≤ x) (hy : 0 < y) (h1 : R32 x) (h2 : R32 y) : Int32.ofInt x - Int32.ofInt x / Int32.ofInt y * Int32.ofInt y = Int32.ofInt (x % y) := by
  have h3 : R32 (x % y) := ⟨by have := Int.emod_nonneg x (by omega : y ≠ 0); omega, by have := Int.emod_lt_of_pos x hy; omega⟩
  apply Int32.toInt_inj.mp
  rw [rem_toInt, r32_ti h1, r32_ti h2, r32_ti h3, Int.tmod_eq_emod_of_nonneg hx]
theorem r32_div {x y : Int} (hx : 0 ≤ x) (hy : 0 < y) (h1 : R32 x) (h2 : R32 y) : Int32.ofInt x / Int32.ofInt y = Int32.ofInt (x / y) := by
  have h4 : x / y ≤ x := Int.ediv_le_self y hx
  have h5 : 0 ≤ x / y := Int.ediv_nonneg hx (by omega)
  have h3 : R32 (x / y) := ⟨by omega, by omega⟩
  apply Int32.toInt_inj.mp
  rw [Int32.toInt_div_of_ne_right _ _ (fun e => by have := congrArg Int32.toInt e; rw [r32_ti h2] at this; have e2 : (-1 : Int32).toInt = -1 := rfl; omega), r32_ti h1, r32_ti h2, r32_ti h3, Int.tdiv_eq_ediv_of_nonneg hx]
theorem st_irem {x y : Int} (hd : decode Y.2.1 pc = .ok (.irem, 1)) (hx : 0 ≤ x) (hy : 0 < y) (kk : fAt g Y (pc + 1) ls (vi (x % y) :: st) M Q) : fAt g Y pc ls (vi y :: vi x :: st) M Q :=
  fAt_p kk (fun hR => ⟨⟨by have := Int.emod_nonneg x (by omega : y ≠ 0); omega, by have := Int.emod_lt_of_pos x hy; have := hR.2.1.1.2; omega⟩, hR.2.1.2.2⟩) (fun hR p e s m args below meth c H locs ar Z hE hl k => lv_irem hE.1 hE.2.1 hd (fun e => by rw [← r32_0, r32_eq hR.2.1.1 (by omega)] at e; omega) (by rw [r32_mod hx hy hR.2.1.2.1 hR.2.1.1]; exact k))
theorem st_idiv {x y : Int} (hd : decode Y.2.1 pc = .ok (.idiv, 1)) (hx : 0 ≤ x) (hy : 0 < y) (kk : fAt g Y (pc + 1) ls (vi (x / y) :: st) M Q) : fAt g Y pc ls (vi y :: vi x :: st) M Q :=
  fAt_p kk (fun hR => ⟨⟨by have := Int.ediv_nonneg hx (by omega : 0 ≤ y); omega, by have := Int.ediv_le_self y hx; have := hR.2.1.2.1.2; omega⟩, hR.2.1.2.2⟩) (fun hR p e s m args below meth c H locs ar Z hE hl k => lv_idiv hE.1 hE.2.1 hd (fun e => by rw [← r32_0, r32_eq hR.2.1.1 (by omega)] at e; omega) (by rw [r32_div hx hy hR.2.1.2.1 hR.2.1.1]; exact k))
theorem st_ladd {x y : Int} (hd : decode Y.2.1 pc = .ok (.ladd, 1)) (h : R64 (x + y)) (kk : fAt g Y (pc + 1) ls (vl (x + y) :: st) M Q) : fAt g Y pc ls (vl y :: vl x :: st) M Q :=
  fAt_p kk (fun hR => ⟨h, hR.2.1.2.2⟩) (fun _ p e s m args below meth c H locs ar Z hE hl k => lv_ladd hE.1 hE.2.1 hd (by rw [← Int64.ofInt_add]; exact k))
theorem st_lmul {x y : Int} (hd : decode Y.2.1 pc = .ok (.lmul, 1)) (h : R64 (x * y)) (kk : fAt g Y (pc + 1) ls (vl (x * y) :: st) M Q) : fAt g Y pc ls (vl y :: vl x :: st) M Q :=
  fAt_p kk (fun hR => ⟨h, hR.2.1.2.2⟩) (fun _ p e s m args below meth c H locs ar Z hE hl k => lv_lmul hE.1 hE.2.1 hd (by rw [← Int64.ofInt_mul]; exact k))
theorem r64_mod {x y : Int} (hx : 0 ≤ x) (hy : 0 < y) (h1 : R64 x) (h2 : R64 y) : Int64.ofInt x - Int64.ofInt x / Int64.ofInt y * Int64.ofInt y = Int64.ofInt (x % y) := by
  have ex : Int64.ofInt x = lN x.toNat := by unfold lN; rw [← Int64.ofInt_eq_ofNat]; congr 1; omega
  have ey : Int64.ofInt y = lN y.toNat := by unfold lN; rw [← Int64.ofInt_eq_ofNat]; congr 1; omega
  rw [ex, ey, pk_lRem (by omega) (by omega) (by omega)]
  unfold lN
  rw [← Int64.ofInt_eq_ofNat]
  congr 1
  rw [Int.natCast_emod]
  congr 1 <;> omega
theorem r64_div {x y : Int} (hx : 0 ≤ x) (hy : 0 < y) (h1 : R64 x) (h2 : R64 y) : Int64.ofInt x / Int64.ofInt y = Int64.ofInt (x / y) := by
  have ex : Int64.ofInt x = lN x.toNat := by unfold lN; rw [← Int64.ofInt_eq_ofNat]; congr 1; omega
  have ey : Int64.ofInt y = lN y.toNat := by unfold lN; rw [← Int64.ofInt_eq_ofNat]; congr 1; omega
  rw [ex, ey, pk_lDiv (by omega) (by omega) (by omega)]
  unfold lN
  rw [← Int64.ofInt_eq_ofNat]
  congr 1
  rw [Int.natCast_ediv]
  congr 1 <;> omega
theorem r64_0 : Int64.ofInt 0 = 0 := rfl
theorem st_lrem {x y : Int} (hd : decode Y.2.1 pc = .ok (.lrem, 1)) (hx : 0 ≤ x) (hy : 0 < y) (kk : fAt g Y (pc + 1) ls (vl (x % y) :: st) M Q) : fAt g Y pc ls (vl y :: vl x :: st) M Q :=
  fAt_p kk (fun hR => ⟨⟨by have := Int.emod_nonneg x (by omega : y ≠ 0); omega, by have := Int.emod_lt_of_pos x hy; have := hR.2.1.1.2; omega⟩, hR.2.1.2.2⟩) (fun hR p e s m args below meth c H locs ar Z hE hl k => lv_lrem hE.1 hE.2.1 hd (fun e => by rw [← r64_0, r64_eq hR.2.1.1 (by omega)] at e; omega) (by rw [r64_mod hx hy hR.2.1.2.1 hR.2.1.1]; exact k))
theorem st_ldiv {x y : Int} (hd : decode Y.2.1 pc = .ok (.ldiv, 1)) (hx : 0 ≤ x) (hy : 0 < y) (kk : fAt g Y (pc + 1) ls (vl (x / y) :: st) M Q) : fAt g Y pc ls (vl y :: vl x :: st) M Q :=
  fAt_p kk (fun hR => ⟨⟨by have := Int.ediv_nonneg hx (by omega : 0 ≤ y); omega, by have := Int.ediv_le_self y hx; have := hR.2.1.2.1.2; omega⟩, hR.2.1.2.2⟩) (fun hR p e s m args below meth c H locs ar Z hE hl k => lv_ldiv hE.1 hE.2.1 hd (fun e => by rw [← r64_0, r64_eq hR.2.1.1 (by omega)] at e; omega) (by rw [r64_div hx hy hR.2.1.2.1 hR.2.1.1]; exact k))
theorem st_i2l {x : Int} (hd : decode Y.2.1 pc = .ok (.i2l, 1)) (kk : fAt g Y (pc + 1) ls (vl x :: st) M Q) : fAt g Y pc ls (vi x :: st) M Q :=
  fAt_p kk (fun hR => ⟨show R64 x by have := hR.2.1.1.1; have := hR.2.1.1.2; omega, hR.2.1.2⟩) (fun hR p e s m args below meth c H locs ar Z hE hl k => lv_i2l hE.1 hE.2.1 hd (Int64.toInt_inj.mp (by rw [Int32.toInt_toInt64, r32_ti hR.2.1.1, r64_ti (by have := hR.2.1.1.1; have := hR.2.1.1.2; omega)])) k)
/-- a long that is an int -/
theorem st_l2i {x : Int} (hd : decode Y.2.1 pc = .ok (.l2i, 1)) (h : R32 x) (kk : fAt g Y (pc + 1) ls (vi x :: st) M Q) : fAt g Y pc ls (vl x :: st) M Q :=
  fAt_p kk (fun hR => ⟨h, hR.2.1.2⟩) (fun hR p e s m args below meth c H locs ar Z hE hl k => lv_l2i hE.1 hE.2.1 hd (by rw [Int64.toInt32_ofInt]) k)
/-- any long: its lowest bits -/
theorem st_l2iw {x : Int} (hd : decode Y.2.1 pc = .ok (.l2i, 1)) (kk : fAt g Y (pc + 1) ls (vi (Int32.ofInt x).toInt :: st) M Q) : fAt g Y pc ls (vl x :: st) M Q :=
  fAt_p kk (fun hR => ⟨r32_in _, hR.2.1.2⟩) (fun hR p e s m args below meth c H locs ar Z hE hl k => lv_l2i hE.1 hE.2.1 hd (by rw [Int64.toInt32_ofInt, Int32.ofInt_toInt]) k)
theorem st_i2b {x : Int} (hd : decode Y.2.1 pc = .ok (.i2b, 1)) (kk : fAt g Y (pc + 1) ls (vi (Int32.ofInt x).toInt8.toInt32.toInt :: st) M Q) : fAt g Y pc ls (vi x :: st) M Q :=
  fAt_p kk (fun hR => ⟨r32_in _, hR.2.1.2⟩) (fun hR p e s m args below meth c H locs ar Z hE hl k => lv_i2b hE.1 hE.2.1 hd (by rw [Int32.ofInt_toInt]) k)
theorem st_i2s {x : Int} (hd : decode Y.2.1 pc = .ok (.i2s, 1)) (kk : fAt g Y (pc + 1) ls (vi (Int32.ofInt x).toInt16.toInt32.toInt :: st) M Q) : fAt g Y pc ls (vi x :: st) M Q :=
  fAt_p kk (fun hR => ⟨r32_in _, hR.2.1.2⟩) (fun hR p e s m args below meth c H locs ar Z hE hl k => lv_i2s hE.1 hE.2.1 hd (by rw [Int32.ofInt_toInt]) k)
/-! bits: the machine's own words for them -/
theorem st_iand {x y : Int} (hd : decode Y.2.1 pc = .ok (.iand, 1)) (kk : fAt g Y (pc + 1) ls (vi (Int32.ofInt x &&& Int32.ofInt y).toInt :: st) M Q) : fAt g Y pc ls (vi y :: vi x :: st) M Q :=
  fAt_p kk (fun hR => ⟨r32_in _, hR.2.1.2.2⟩) (fun hR p e s m args below meth c H locs ar Z hE hl k => lv_iand hE.1 hE.2.1 hd (by rw [← Int32.ofInt_toInt (Int32.ofInt x &&& Int32.ofInt y)]; exact k))
theorem st_ior {x y : Int} (hd : decode Y.2.1 pc = .ok (.ior, 1)) (kk : fAt g Y (pc + 1) ls (vi (Int32.ofInt x ||| Int32.ofInt y).toInt :: st) M Q) : fAt g Y pc ls (vi y :: vi x :: st) M Q :=
  fAt_p kk (fun hR => ⟨r32_in _, hR.2.1.2.2⟩) (fun hR p e s m args below meth c H locs ar Z hE hl k => lv_ior hE.1 hE.2.1 hd (by rw [← Int32.ofInt_toInt (Int32.ofInt x ||| Int32.ofInt y)]; exact k))
theorem st_ishl {x y : Int} (hd : decode Y.2.1 pc = .ok (.ishl, 1)) (kk : fAt g Y (pc + 1) ls (vi (Int32.ofInt x <<< (Int32.ofInt y &&& 31)).toInt :: st) M Q) : fAt g Y pc ls (vi y :: vi x :: st) M Q :=
  fAt_p kk (fun hR => ⟨r32_in _, hR.2.1.2.2⟩) (fun hR p e s m args below meth c H locs ar Z hE hl k => lv_ishl hE.1 hE.2.1 hd (by rw [← Int32.ofInt_toInt (Int32.ofInt x <<< (Int32.ofInt y &&& 31))]; exact k))
theorem st_ishr {x y : Int} (hd : decode Y.2.1 pc = .ok (.ishr, 1)) (kk : fAt g Y (pc + 1) ls (vi (Int32.ofInt x >>> (Int32.ofInt y &&& 31)).toInt :: st) M Q) : fAt g Y pc ls (vi y :: vi x :: st) M Q :=
  fAt_p kk (fun hR => ⟨r32_in _, hR.2.1.2.2⟩) (fun hR p e s m args below meth c H locs ar Z hE hl k => lv_ishr hE.1 hE.2.1 hd (by rw [← Int32.ofInt_toInt (Int32.ofInt x >>> (Int32.ofInt y &&& 31))]; exact k))
theorem st_land {x y : Int} (hd : decode Y.2.1 pc = .ok (.land, 1)) (kk : fAt g Y (pc + 1) ls (vl (Int64.ofInt x &&& Int64.ofInt y).toInt :: st) M Q) : fAt g Y pc ls (vl y :: vl x :: st) M Q :=
  fAt_p kk (fun hR => ⟨r64_in _, hR.2.1.2.2⟩) (fun hR p e s m args below meth c H locs ar Z hE hl k => lv_land hE.1 hE.2.1 hd (by rw [← Int64.ofInt_toInt (Int64.ofInt x &&& Int64.ofInt y)]; exact k))
/-! stack -/
theorem st_dup {v : fV} (hd : decode Y.2.1 pc = .ok (.dup, 1)) (hv : (fMv g v).category = 1) (kk : fAt g Y (pc + 1) ls (v :: v :: st) M Q) : fAt g Y pc ls (v :: st) M Q :=
  fAt_p kk (fun hR => ⟨hR.2.1.1, hR.2.1.1, hR.2.1.2⟩) (fun hR p e s m args below meth c H locs ar Z hE hl k => lv_dup hE.1 hE.2.1 hd hv k)
theorem st_pop {v : fV} (hd : decode Y.2.1 pc = .ok (.pop, 1)) (hv : (fMv g v).category = 1) (kk : fAt g Y (pc + 1) ls st M Q) : fAt g Y pc ls (v :: st) M Q :=
  fAt_p kk (fun hR => hR.2.1.2) (fun hR p e s m args below meth c H locs ar Z hE hl k => lv_pop hE.1 hE.2.1 hd hv k)
theorem st_dup2 {v w : fV} (hd : decode Y.2.1 pc = .ok (.dup2, 1)) (hv : (fMv g v).category = 1) (hw : (fMv g w).category = 1) (kk : fAt g Y (pc + 1) ls (v :: w :: v :: w :: st) M Q) : fAt g Y pc ls (v :: w :: st) M Q :=
  fAt_p kk (fun hR => ⟨hR.2.1.1, hR.2.1.2.1, hR.2.1.1, hR.2.1.2.1, hR.2.1.2.2⟩) (fun hR p e s m args below meth c H locs ar Z hE hl k => lv_dup2_11 hE.1 hE.2.1 hd hv hw k)
/-! branches -/
theorem st_goto {off : Int} (tgt : Nat) (hd : decode Y.2.1 pc = .ok (.goto off, 3)) (ht : (pc : Int) + off = (tgt : Int)) (kk : fAt g Y tgt ls st M Q) : fAt g Y pc ls st M Q :=
  fAt_p kk (fun hR => hR.2.1) (fun hR p e s m args below meth c H locs ar Z hE hl k => lv_goto hE.1 hE.2.1 hd ht k)
theorem r32_z {x : Int} (hx : R32 x) : Int32.ofInt x = 0 ↔ x = 0 := by rw [← r32_0, r32_eq hx (by omega)]
theorem r32_ltz {x : Int} (hx : R32 x) : Int32.ofInt x < 0 ↔ x < 0 := by rw [← r32_0, r32_lt hx (by omega)]
theorem r32_lez {x : Int} (hx : R32 x) : Int32.ofInt x ≤ 0 ↔ x ≤ 0 := by rw [← r32_0, r32_le hx (by omega)]
theorem r32_zlt {x : Int} (hx : R32 x) : (0 : Int32) < Int32.ofInt x ↔ 0 < x := by rw [← r32_0, r32_lt (by omega) hx]
theorem r32_zle {x : Int} (hx : R32 x) : (0 : Int32) ≤ Int32.ofInt x ↔ 0 ≤ x := by rw [← r32_0, r32_le (by omega) hx]
theorem st_icmp_eq {x y off : Int} (tgt : Nat) (hd : decode Y.2.1 pc = .ok (.if_icmp .eq off, 3)) (ht : (pc : Int) + off = (tgt : Int)) (kt : x = y → fAt g Y tgt ls st M Q) (kf : x ≠ y → fAt g Y (pc + 3) ls st M Q) : fAt g Y pc ls (vi y :: vi x :: st) M Q := by
  intro hR p e s m args below meth c H locs ar hE hP hS hl
  have hy : R32 y := hR.2.1.1
  have hx : R32 x := hR.2.1.2.1
  exact lv_icmp_eq hE.1 hE.2.1 hd ht (fun q => kt ((r32_eq hx hy).mp q) ⟨hR.1, hR.2.1.2.2, hR.2.2⟩ p e s m args below meth c H locs ar hE hP hS hl) (fun q => kf (fun z => q ((r32_eq hx hy).mpr z)) ⟨hR.1, hR.2.1.2.2, hR.2.2⟩ p e s m args below meth c H locs ar hE hP hS hl)
theorem st_if_eq {x off : Int} (tgt : Nat) (hd : decode Y.2.1 pc = .ok (.ifCond .eq off, 3)) (ht : (pc : Int) + off = (tgt : Int)) (kt : x = 0 → fAt g Y tgt ls st M Q) (kf : x ≠ 0 → fAt g Y (pc + 3) ls st M Q) : fAt g Y pc ls (vi x :: st) M Q := by
  intro hR p e s m args below meth c H locs ar hE hP hS hl
  have hx : R32 x := hR.2.1.1
  exact lv_if_eq hE.1 hE.2.1 hd ht (fun q => kt ((r32_z hx).mp q) ⟨hR.1, hR.2.1.2, hR.2.2⟩ p e s m args below meth c H locs ar hE hP hS hl) (fun q => kf (fun z => q ((r32_z hx).mpr z)) ⟨hR.1, hR.2.1.2, hR.2.2⟩ p e s m args below meth c H locs ar hE hP hS hl)
theorem st_icmp_ne {x y off : Int} (tgt : Nat) (hd : decode Y.2.1 pc = .ok (.if_icmp .ne off, 3)) (ht : (pc : Int) + off = (tgt : Int)) (kt : x ≠ y → fAt g Y tgt ls st M Q) (kf : x = y → fAt g Y (pc + 3) ls st M Q) : fAt g Y pc ls (vi y :: vi x :: st) M Q := by
  intro hR p e s m args below meth c H locs ar hE hP hS hl
  have hy : R32 y := hR.2.1.1
  have hx : R32 x := hR.2.1.2.1
  exact lv_icmp_ne hE.1 hE.2.1 hd ht (fun q => kt (fun z => q ((r32_eq hx hy).mpr z)) ⟨hR.1, hR.2.1.2.2, hR.2.2⟩ p e s m args below meth c H locs ar hE hP hS hl) (fun q => kf ((r32_eq hx hy).mp q) ⟨hR.1, hR.2.1.2.2, hR.2.2⟩ p e s m args below meth c H locs ar hE hP hS hl)
theorem st_if_ne {x off : Int} (tgt : Nat) (hd : decode Y.2.1 pc = .ok (.ifCond .ne off, 3)) (ht : (pc : Int) + off = (tgt : Int)) (kt : x ≠ 0 → fAt g Y tgt ls st M Q) (kf : x = 0 → fAt g Y (pc + 3) ls st M Q) : fAt g Y pc ls (vi x :: st) M Q := by
  intro hR p e s m args below meth c H locs ar hE hP hS hl
  have hx : R32 x := hR.2.1.1
  exact lv_if_ne hE.1 hE.2.1 hd ht (fun q => kt (fun z => q ((r32_z hx).mpr z)) ⟨hR.1, hR.2.1.2, hR.2.2⟩ p e s m args below meth c H locs ar hE hP hS hl) (fun q => kf ((r32_z hx).mp q) ⟨hR.1, hR.2.1.2, hR.2.2⟩ p e s m args below meth c H locs ar hE hP hS hl)
theorem st_icmp_lt {x y off : Int} (tgt : Nat) (hd : decode Y.2.1 pc = .ok (.if_icmp .lt off, 3)) (ht : (pc : Int) + off = (tgt : Int)) (kt : x < y → fAt g Y tgt ls st M Q) (kf : y ≤ x → fAt g Y (pc + 3) ls st M Q) : fAt g Y pc ls (vi y :: vi x :: st) M Q := by
  intro hR p e s m args below meth c H locs ar hE hP hS hl
  have hy : R32 y := hR.2.1.1
  have hx : R32 x := hR.2.1.2.1
  exact lv_icmp_lt hE.1 hE.2.1 hd ht (fun q => kt ((r32_lt hx hy).mp q) ⟨hR.1, hR.2.1.2.2, hR.2.2⟩ p e s m args below meth c H locs ar hE hP hS hl) (fun q => kf (Int.not_lt.mp (fun z => q ((r32_lt hx hy).mpr z))) ⟨hR.1, hR.2.1.2.2, hR.2.2⟩ p e s m args below meth c H locs ar hE hP hS hl)
theorem st_if_lt {x off : Int} (tgt : Nat) (hd : decode Y.2.1 pc = .ok (.ifCond .lt off, 3)) (ht : (pc : Int) + off = (tgt : Int)) (kt : x < 0 → fAt g Y tgt ls st M Q) (kf : 0 ≤ x → fAt g Y (pc + 3) ls st M Q) : fAt g Y pc ls (vi x :: st) M Q := by
  intro hR p e s m args below meth c H locs ar hE hP hS hl
  have hx : R32 x := hR.2.1.1
  exact lv_if_lt hE.1 hE.2.1 hd ht (fun q => kt ((r32_ltz hx).mp q) ⟨hR.1, hR.2.1.2, hR.2.2⟩ p e s m args below meth c H locs ar hE hP hS hl) (fun q => kf (Int.not_lt.mp (fun z => q ((r32_ltz hx).mpr z))) ⟨hR.1, hR.2.1.2, hR.2.2⟩ p e s m args below meth c H locs ar hE hP hS hl)
theorem st_icmp_ge {x y off : Int} (tgt : Nat) (hd : decode Y.2.1 pc = .ok (.if_icmp .ge off, 3)) (ht : (pc : Int) + off = (tgt : Int)) (kt : y ≤ x → fAt g Y tgt ls st M Q) (kf : x < y → fAt g Y (pc + 3) ls st M Q) : fAt g Y pc ls (vi y :: vi x :: st) M Q := by
  intro hR p e s m args below meth c H locs ar hE hP hS hl
  have hy : R32 y := hR.2.1.1
  have hx : R32 x := hR.2.1.2.1
  exact lv_icmp_ge hE.1 hE.2.1 hd ht (fun q => kt ((r32_le hy hx).mp q) ⟨hR.1, hR.2.1.2.2, hR.2.2⟩ p e s m args below meth c H locs ar hE hP hS hl) (fun q => kf (Int.not_le.mp (fun z => q ((r32_le hy hx).mpr z))) ⟨hR.1, hR.2.1.2.2, hR.2.2⟩ p e s m args below meth c H locs ar hE hP hS hl)
theorem st_if_ge {x off : Int} (tgt : Nat) (hd : decode Y.2.1 pc = .ok (.ifCond .ge off, 3)) (ht : (pc : Int) + off = (tgt : Int)) (kt : 0 ≤ x → fAt g Y tgt ls st M Q) (kf : x < 0 → fAt g Y (pc + 3) ls st M Q) : fAt g Y pc ls (vi x :: st) M Q := by
  intro hR p e s m args below meth c H locs ar hE hP hS hl
  have hx : R32 x := hR.2.1.1
  exact lv_if_ge hE.1 hE.2.1 hd ht (fun q => kt ((r32_zle hx).mp q) ⟨hR.1, hR.2.1.2, hR.2.2⟩ p e s m args below meth c H locs ar hE hP hS hl) (fun q => kf (Int.not_le.mp (fun z => q ((r32_zle hx).mpr z))) ⟨hR.1, hR.2.1.2, hR.2.2⟩ p e s m args below meth c H locs ar hE hP hS hl)
theorem st_icmp_gt {x y off : Int} (tgt : Nat) (hd : decode Y.2.1 pc = .ok (.if_icmp .gt off, 3)) (ht : (pc : Int) + off = (tgt : Int)) (kt : y < x → fAt g Y tgt ls st M Q) (kf : x ≤ y → fAt g Y (pc + 3) ls st M Q) : fAt g Y pc ls (vi y :: vi x :: st) M Q := by
  intro hR p e s m args below meth c H locs ar hE hP hS hl
  have hy : R32 y := hR.2.1.1
  have hx : R32 x := hR.2.1.2.1
  exact lv_icmp_gt hE.1 hE.2.1 hd ht (fun q => kt ((r32_lt hy hx).mp q) ⟨hR.1, hR.2.1.2.2, hR.2.2⟩ p e s m args below meth c H locs ar hE hP hS hl) (fun q => kf (Int.not_lt.mp (fun z => q ((r32_lt hy hx).mpr z))) ⟨hR.1, hR.2.1.2.2, hR.2.2⟩ p e s m args below meth c H locs ar hE hP hS hl)
theorem st_if_gt {x off : Int} (tgt : Nat) (hd : decode Y.2.1 pc = .ok (.ifCond .gt off, 3)) (ht : (pc : Int) + off = (tgt : Int)) (kt : 0 < x → fAt g Y tgt ls st M Q) (kf : x ≤ 0 → fAt g Y (pc + 3) ls st M Q) : fAt g Y pc ls (vi x :: st) M Q := by
  intro hR p e s m args below meth c H locs ar hE hP hS hl
  have hx : R32 x := hR.2.1.1
  exact lv_if_gt hE.1 hE.2.1 hd ht (fun q => kt ((r32_zlt hx).mp q) ⟨hR.1, hR.2.1.2, hR.2.2⟩ p e s m args below meth c H locs ar hE hP hS hl) (fun q => kf (Int.not_lt.mp (fun z => q ((r32_zlt hx).mpr z))) ⟨hR.1, hR.2.1.2, hR.2.2⟩ p e s m args below meth c H locs ar hE hP hS hl)
theorem st_icmp_le {x y off : Int} (tgt : Nat) (hd : decode Y.2.1 pc = .ok (.if_icmp .le off, 3)) (ht : (pc : Int) + off = (tgt : Int)) (kt : x ≤ y → fAt g Y tgt ls st M Q) (kf : y < x → fAt g Y (pc + 3) ls st M Q) : fAt g Y pc ls (vi y :: vi x :: st) M Q := by
  intro hR p e s m args below meth c H locs ar hE hP hS hl
  have hy : R32 y := hR.2.1.1
  have hx : R32 x := hR.2.1.2.1
  exact lv_icmp_le hE.1 hE.2.1 hd ht (fun q => kt ((r32_le hx hy).mp q) ⟨hR.1, hR.2.1.2.2, hR.2.2⟩ p e s m args below meth c H locs ar hE hP hS hl) (fun q => kf (Int.not_le.mp (fun z => q ((r32_le hx hy).mpr z))) ⟨hR.1, hR.2.1.2.2, hR.2.2⟩ p e s m args below meth c H locs ar hE hP hS hl)
theorem st_if_le {x off : Int} (tgt : Nat) (hd : decode Y.2.1 pc = .ok (.ifCond .le off, 3)) (ht : (pc : Int) + off = (tgt : Int)) (kt : x ≤ 0 → fAt g Y tgt ls st M Q) (kf : 0 < x → fAt g Y (pc + 3) ls st M Q) : fAt g Y pc ls (vi x :: st) M Q := by
  intro hR p e s m args below meth c H locs ar hE hP hS hl
  have hx : R32 x := hR.2.1.1
  exact lv_if_le hE.1 hE.2.1 hd ht (fun q => kt ((r32_lez hx).mp q) ⟨hR.1, hR.2.1.2, hR.2.2⟩ p e s m args below meth c H locs ar hE hP hS hl) (fun q => kf (Int.not_le.mp (fun z => q ((r32_lez hx).mpr z))) ⟨hR.1, hR.2.1.2, hR.2.2⟩ p e s m args below meth c H locs ar hE hP hS hl)
theorem st_tableIn {x dflt lo hi off : Int} {offs : Array Int} {len : Nat} (tgt : Nat) (hd : decode Y.2.1 pc = .ok (.tableswitch dflt lo hi offs, len)) (h1 : lo ≤ x) (h2 : x ≤ hi) (ho : offs[(x - lo).toNat]? = some off) (ht : (pc : Int) + off = (tgt : Int)) (kk : fAt g Y tgt ls st M Q) : fAt g Y pc ls (vi x :: st) M Q :=
  fAt_p kk (fun hR => hR.2.1.2) (fun hR p e s m args below meth c H locs ar Z hE hl k => lv_tableIn hE.1 hE.2.1 hd (by rw [r32_ti hR.2.1.1]; omega) (by rw [r32_ti hR.2.1.1]; omega) (by rw [r32_ti hR.2.1.1]; exact ho) ht k)
theorem st_tableOut {x dflt lo hi : Int} {offs : Array Int} {len : Nat} (tgt : Nat) (hd : decode Y.2.1 pc = .ok (.tableswitch dflt lo hi offs, len)) (h : x < lo ∨ hi < x) (ht : (pc : Int) + dflt = (tgt : Int)) (kk : fAt g Y tgt ls st M Q) : fAt g Y pc ls (vi x :: st) M Q :=
  fAt_p kk (fun hR => hR.2.1.2) (fun hR p e s m args below meth c H locs ar Z hE hl k => lv_tableOut hE.1 hE.2.1 hd (by rw [r32_ti hR.2.1.1]; exact h) ht k)
theorem st_lookup {x dflt off : Int} {ps : Array (Int × Int)} {len : Nat} (tgt : Nat) (hd : decode Y.2.1 pc = .ok (.lookupswitch dflt ps, len)) (hp : (ps.toList.zip (ps.toList.drop 1)).all (fun (a, next) => a.1 < next.1) = true) (ho : Op.lookupswitch.offset ps.toList dflt x = off) (ht : (pc : Int) + off = (tgt : Int)) (kk : fAt g Y tgt ls st M Q) : fAt g Y pc ls (vi x :: st) M Q :=
  fAt_p kk (fun hR => hR.2.1.2) (fun hR p e s m args below meth c H locs ar Z hE hl k => lv_lookup hE.1 hE.2.1 hd hp (by rw [r32_ti hR.2.1.1]; exact ho) ht k)
def fcmp (x y : Int) : Int := if y < x then 1 else if x = y then 0 else -1
theorem fcmp_in (x y : Int) : R32 (fcmp x y) := by
  unfold fcmp
  split
  · omega
  · split <;> omega
theorem fcmp_lt {x y : Int} : fcmp x y < 0 ↔ x < y := by
  unfold fcmp
  split
  · omega
  · split <;> omega
theorem fcmp_eq {x y : Int} : fcmp x y = 0 ↔ x = y := by
  unfold fcmp
  split
  · omega
  · split <;> omega
theorem fcmp_gt {x y : Int} : 0 < fcmp x y ↔ y < x := by
  unfold fcmp
  split
  · omega
  · split <;> omega
theorem fcmp_kit {x y : Int} (hx : R64 x) (hy : R64 y) : lg_cmp (Int64.ofInt x) (Int64.ofInt y) = Int32.ofInt (fcmp x y) := by
  unfold lg_cmp fcmp
  by_cases h : y < x
  · rw [if_pos h, if_pos ((r64_lt hy hx).mpr h)]; rfl
  · rw [if_neg h, if_neg (fun z => h ((r64_lt hy hx).mp z))]
    by_cases e : x = y
    · rw [if_pos e, if_pos ((r64_eq hx hy).mpr e)]; rfl
    · rw [if_neg e, if_neg (fun z => e ((r64_eq hx hy).mp z))]; rfl
theorem st_lcmp {x y : Int} (hd : decode Y.2.1 pc = .ok (.lcmp, 1)) (kk : fAt g Y (pc + 1) ls (vi (fcmp x y) :: st) M Q) : fAt g Y pc ls (vl y :: vl x :: st) M Q :=
  fAt_p kk (fun hR => ⟨fcmp_in x y, hR.2.1.2.2⟩) (fun hR p e s m args below meth c H locs ar Z hE hl k => W.lcmp hE.1 hE.2.1 hd (by rw [fcmp_kit hR.2.1.2.1 hR.2.1.1]; exact k))
/-! ends -/
theorem st_ireturn {x : Int} (hd : decode Y.2.1 pc = .ok (.ireturn, 1)) (hr : Y.2.2.2.1 = some .int) (hq : Q (some (vi x)) M) : fAt g Y pc ls [vi x] M Q := by
  intro hR p e s m args below meth c H locs ar hE hP hS hl
  have hlocks := hE.2.2.2.2.2.2.1
  exact W.iret hE.1 hE.2.1 (hE.2.2.1.trans hr) (fun t ht hW => ⟨⟨some (vi x), M, rfl, hq, fun v hv => by cases hv; exact hR.2.1.1, hR.2.2, by rw [ht]; exact hP⟩, hS.F ht⟩) hS.2.2 hd hlocks
theorem st_zreturn {x : Int} (hd : decode Y.2.1 pc = .ok (.ireturn, 1)) (hr : Y.2.2.2.1 = some .boolean) (hx : x = 0 ∨ x = 1) (hq : Q (some (vi x)) M) : fAt g Y pc ls [vi x] M Q := by
  intro hR p e s m args below meth c H locs ar hE hP hS hl
  have hlocks := hE.2.2.2.2.2.2.1
  exact W.zret hE.1 hE.2.1 (hE.2.2.1.trans hr) (by rcases hx with rfl | rfl <;> rfl) (fun t ht hW => ⟨⟨some (vi x), M, rfl, hq, fun v hv => by cases hv; exact hR.2.1.1, hR.2.2, by rw [ht]; exact hP⟩, hS.F ht⟩) hS.2.2 hd hlocks
theorem st_lreturn {x : Int} (hd : decode Y.2.1 pc = .ok (.lreturn, 1)) (hr : Y.2.2.2.1 = some .long) (hq : Q (some (vl x)) M) : fAt g Y pc ls [vl x] M Q := by
  intro hR p e s m args below meth c H locs ar hE hP hS hl
  have hlocks := hE.2.2.2.2.2.2.1
  exact W.lret hE.1 hE.2.1 (hE.2.2.1.trans hr) (fun t ht hW => ⟨⟨some (vl x), M, rfl, hq, fun v hv => by cases hv; exact hR.2.1.1, hR.2.2, by rw [ht]; exact hP⟩, hS.F ht⟩) hS.2.2 hd hlocks
theorem st_return (hd : decode Y.2.1 pc = .ok (.return_, 1)) (hr : Y.2.2.2.1 = none) (hq : Q none M) : fAt g Y pc ls [] M Q := by
  intro hR p e s m args below meth c H locs ar hE hP hS hl
  have hlocks := hE.2.2.2.2.2.2.1
  exact W.vret hE.1 hE.2.1 (hE.2.2.1.trans hr) (fun t ht hW => ⟨⟨none, M, rfl, hq, fun v hv => (by cases hv), hR.2.2, by rw [ht]; exact hP⟩, hS.F ht⟩) hS.2.2 hd hlocks
end FM1
