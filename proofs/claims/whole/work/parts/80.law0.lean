/-! THE CLAIM OUT OF ONE WALK OF THE LAW'S BODY. Your part is whole_start (and what it stands on); all else here is the same for every law, but numbers. -/
def R_law : String := "LeanDiagonalsLaw"
def lw_P (b : Addr) (xs : List Int32) (args : Array Value) (s : State) : Prop := args = #[.ref b] ∧ s.IntsAt b xs ∧ xs.length ≤ 3072 ∧ (Jvm.Cond.and given_1 narrow_1).before args s = true
def lw_Q (_ : Array Value) (s : State) (o : Outcome) (t : State) : Prop := o = .returned (some (.int 1)) ∧ Framed s o t [] 600000 7302250
def lw_Z (below : List Frame) (a : Array Value) (s : State) : State → Prop := fun t => ∃ o, t.status = .running ∧ Ended t below o ∧ lw_Q a s o t
/-- the law's own end, with 1 on the stack, nothing written that was there before, its room as the claim has it -/
theorem lw_ret {p : Program} {l : Launch} {e : Env} {s : State} {m : MethodId} {below : List Frame} {meth : Method} {c : Code} {b : Nat} (hx : p.tables.exec = Jvm.exec) (hb : c.code = code) (hr : meth.sig.returnType = ret) (hlocks : meth.locks = false) {pc : Nat} {H : Heap} {ls : Array Slot} (hdg : decode code pc = .ok (.ireturn, 1)) : W p l e room_1 s m #[Value.ref b] below meth c H [] 600000 7302250 (lw_Z below #[Value.ref b] s) (F0 m pc ls [.int 1]) := by
  intro T hT X
  obtain ⟨fs, hret, hrun, hended, hW, hframe⟩ := X.leave (v := some (.int 1)) (hlocks := hlocks) (fun h => by rw [hr] at h; cases h)
  have hmeth' : T.vm.method? m = some meth := X.method'
  refine ⟨T.setFrames fs, ?_, .returned (some (.int 1)), hrun, hended, rfl, ⟨_, rfl⟩, hW, hframe⟩
  jvm_step X.here [X.here.top, hx, hb, hdg, hmeth', hr, ret, narrow_b1]
  (try refine ⟨rfl, ?_⟩); (try refine ⟨rfl, ?_⟩)
  first | (intro acts; rw [hret _ acts rfl rfl rfl]) | rw [hret _ _ rfl rfl rfl]
  exact Steps.refl _
/-- what holds at the law's entry: the machine, the code, the tables' words (any of lw_tbl by 'hts w (by decide +kernel)'), the script of L ints xs at the cell b, what the Statement gives of the start (any of its parts by flat_of_before) -/
def lw_At (p : Program) (s : State) (m : MethodId) (meth : Method) (c : Code) (b L : Nat) (xs : Nat → Int32) : Prop :=
  p.tables.exec = Jvm.exec ∧ c.code = code ∧ meth.sig.returnType = ret ∧ c.maxLocals = 4 ∧ s.vm.findClass R_law = some m.cls ∧ (∀ w ∈ lw_tbl, w.before #[Value.ref b] s = true) ∧ va_X b L xs s s.heap ∧ b < s.heap.size ∧ meth.locks = false ∧ (Jvm.Cond.and given_1 narrow_1).before #[Value.ref b] s = true
/-! ===== the law's own walk over the store ===== -/
def lLs (g : fG) (sb i : Nat) : List (Nat × Value) := [(3, .int (Int32.ofInt (i : Int))), (2, .ref (g.2.2.1 22 0)), (1, .ref (g.2.2.1 0 0)), (0, .ref sb)]
def lEn (g : fG) (p : Program) (s : State) (m : MethodId) (meth : Method) (c : Code) (sb L : Nat) (xs : Nat → Int32) : Prop := lw_At p s m meth c sb L xs ∧ L ≤ 3072 ∧ va_K g.2.1 fcls (fty g) s ∧ fNw s ∧ fInj g ∧ ∀ k i, i < fcnt k → s.heap.size ≤ g.2.2.1 k i
def lAt (g : fG) (sb L : Nat) (xs : Nat → Int32) (pc i : Nat) (st : List fV) (M : fM) : Prop :=
  fRs st → fRM M → ∀ (p : Program) (e : Env) (s : State) (m : MethodId) (below : List Frame) (meth : Method) (c : Code) (H : Heap) (locs : List Loc) (ar : Array Slot),
    lEn g p s m meth c sb L xs → va_P g.2.1 fcls (fws g M) H → va_S (fun q => s.heap.size ≤ q) s.heap H locs → lv_has ar 4 (lLs g sb i) →
    W p g.1 e room_1 s m #[Value.ref sb] below meth c H locs 115 1838 (lw_Z below #[Value.ref sb] s) (F0 m pc ar (st.map (fMv g)))
section LAW
variable {g : fG} {sb L : Nat} {xs : Nat → Int32} {pc i : Nat} {st : List fV} {M : fM}
theorem la_p {pc' : Nat} {st' : List fV} (kk : lAt g sb L xs pc' i st' M) (hr : fRs st → fRs st')
    (h : fRs st → ∀ (p : Program) (e : Env) (s : State) (m : MethodId) (below : List Frame) (meth : Method) (c : Code) (H : Heap) (locs : List Loc) (ar : Array Slot) (Z : State → Prop), lEn g p s m meth c sb L xs → va_S (fun q => s.heap.size ≤ q) s.heap H locs → lv_has ar 4 (lLs g sb i) → W p g.1 e room_1 s m #[Value.ref sb] below meth c H locs 115 1838 Z (F0 m pc' ar (st'.map (fMv g))) → W p g.1 e room_1 s m #[Value.ref sb] below meth c H locs 115 1838 Z (F0 m pc ar (st.map (fMv g)))) : lAt g sb L xs pc i st M :=
  fun hR hM p e s m below meth c H locs ar hE hP hS hl => h hR p e s m below meth c H locs ar _ hE hS hl (kk (hr hR) hM p e s m below meth c H locs ar hE hP hS hl)
theorem la_x (hd : decode code pc = .ok (.aload_n 1, 1)) (kk : lAt g sb L xs (pc + 1) i (vr 0 0 :: st) M) : lAt g sb L xs pc i st M :=
  la_p kk (fun hR => ⟨show 0 < fcnt 0 by decide, hR⟩) (fun hR p e s m below meth c H locs ar Z hE hS hl k => lv_aload_n hE.1.1 hE.1.2.1 hd rfl (lv_at hl 2 rfl) k)
theorem la_m (hd : decode code pc = .ok (.aload_n 2, 1)) (kk : lAt g sb L xs (pc + 1) i (vr 22 0 :: st) M) : lAt g sb L xs pc i st M :=
  la_p kk (fun hR => ⟨show 0 < fcnt 22 by decide, hR⟩) (fun hR p e s m below meth c H locs ar Z hE hS hl k => lv_aload_n hE.1.1 hE.1.2.1 hd rfl (lv_at hl 1 rfl) k)
theorem la_idx {j : Nat} (h : j < L) (hL : L ≤ 3072) : vp_in (Int32.ofInt (j : Int)) L ∧ (Int32.ofInt (j : Int)).toNatClampNeg = j := by
  have hr : R32 (j : Int) := by omega
  exact ⟨fin_of hr rfl h, r32_nat rfl hr⟩
/-- an int of the script -/
theorem la_arg (k : Nat) (h0 : decode code pc = .ok (.aload_n 0, 1)) (h1 : decode code (pc + 1) = .ok (.iload_n 3, 1)) (h2 : decode code (pc + 2) = .ok (.iconst (k : Int), 1)) (h3 : decode code (pc + 3) = .ok (.iadd, 1)) (h4 : decode code (pc + 4) = .ok (.iaload, 1)) (hk : i + k < L) (kk : lAt g sb L xs (pc + 5) i (vi (xs (i + k)).toInt :: st) M) : lAt g sb L xs pc i st M := by
  refine la_p kk (fun hR => ⟨r32_in _, hR⟩) (fun hR p e s m below meth c H locs ar Z hE hS hl kk => ?_)
  obtain ⟨⟨hx, hb, hr, hml, hown, hts, hX, hbl, hlocks, hgv⟩, hL, -⟩ := id hE
  have hbA : ¬ (fun q : Nat => s.heap.size ≤ q) sb := Nat.not_le.mpr hbl
  obtain ⟨i1, i2⟩ := la_idx hk hL
  refine lv_aload_n hx hb h0 rfl (lv_at hl 3 rfl) ?_
  refine lv_iload_n hx hb h1 rfl (lv_at hl 0 rfl) ?_
  refine lv_iconst (v := Int32.ofInt (k : Int)) hx hb h2 rfl ?_
  refine lv_iadd hx hb h3 ?_
  have e1 : Int32.ofInt (i : Int) + Int32.ofInt (k : Int) = Int32.ofInt ((i + k : Nat) : Int) := by rw [← Int32.ofInt_add]; rfl
  rw [e1]
  refine va_sld hx hb hX hbl hbA hS i1 h4 ?_
  rw [i2]
  have kk : W p g.1 e room_1 s m #[Value.ref sb] below meth c H locs 115 1838 Z (F0 m (pc + 5) ar (.int (Int32.ofInt (xs (i + k)).toInt) :: st.map (fMv g))) := kk
  rw [Int32.ofInt_toInt] at kk
  exact kk
theorem la_good {Y' : fY} {own C : String} {ix : Nat} (h1 : Cond.methodLink own ix Y'.1 ∈ ftb) (h2 : Cond.instanceMethod Y'.1 ∈ ftb) (h3 : Cond.selects C Y'.1 Y'.1 ∈ ftb) (h4 : Cond.initialized C ∈ ftb) (h5 : Cond.code Y'.1 Y'.2.1 Y'.2.2.1 Y'.2.2.2.1 ∈ ftb) : GoodIn ftb (wsV own ix C Y'.1 (fwd Y')) := by
  intro w hw
  unfold wsV at hw
  rcases List.mem_append.mp hw with hw | hw
  · have hm : w ∈ ftb := by
      simp only [List.mem_cons, List.not_mem_nil, or_false] at hw
      rcases hw with rfl | rfl | rfl | rfl
      · exact h1
      · exact h2
      · exact h3
      · exact h4
    exact ⟨hm, good_of_word (ftb_good hm)⟩
  · exact cn_good h5 w hw
/-- a call from the law -/
theorem la_call {Y' : fY} {ix k k0 c np : Nat} {C : String} {T : u_T} {N : Nat} {sl : List (Option (Nat × (Nat → Nat)))} {Q' : Option fV → fM → Prop} (As rest : List fV) (hd : decode code pc = .ok (.invokevirtual ix, 3)) (hv : fVl "LeanDiagonalsLaw" ix C Y' np) (hk : fobj k = some (c, sl)) (hc : fcls[c]? = some (C, T, N)) (hn : As.length = np) (hs : st = As.reverse ++ vr k k0 :: rest) (hcat : ((rest.map (fMv g)).map fun v => v.category).sum ≤ 8) (hroom : Y'.2.2.2.2.1 + 1 ≤ 9 ∧ 8 + (Y'.2.2.1 + 11) + Y'.2.2.2.2.2 ≤ 340) (hct : fCt g Y' (vr k k0 :: As) M Q') (kk : ∀ r M', Q' r M' → lAt g sb L xs (pc + 3) i (r.toList ++ rest) M') : lAt g sb L xs pc i st M := by
  subst hs
  intro hR hM p e s m below meth co H locs ar hE hP hS hl
  obtain ⟨⟨hx, hb, hr, hml, hown, hts0, hX, hbl, hlocks, hgv⟩, hL, hK, hN, hI, hA⟩ := id hE
  obtain ⟨v1, v2, v3, v4, v5, v6, v7, v8, v9⟩ := hv
  have hts : ∀ w ∈ ftb, w.before #[Value.ref sb] s = true := fun w hw => hts0 w (ftb_tbl hw)
  have hrs := fRs_app.mp hR
  have hi : k0 < fcnt k := hrs.2.1
  have he := fws_at g M hi
  rw [fcell_o hk] at he
  have hMt := hct hI ⟨hi, fRs_rev hrs.1⟩ hM
  have hrun := va_runV (p := p) (m := m) (c := co) (R := room_1) (e := e) (below := below) (meth := meth) (H := H) (locs := locs) (cells := 115) (slots := 1838) (g := F0 m pc ar ((As.reverse ++ vr k k0 :: rest).map (fMv g))) (As := As.map (fMv g)) (rest := rest.map (fMv g)) (b := g.2.2.1 k k0) (C := C) (own := "LeanDiagonalsLaw") ⟨hx, hb, hml, hown, hts⟩ hMt (cwV np hts (la_good v1 v2 v3 v4 v5) rfl rfl rfl ⟨v6, v7, v8, v9⟩ hroom) ⟨fBlind (vr k k0 :: As), va_recv hK hP hc he, fun U hU hW => ⟨rfl, va_K.moved hW.alike hK, fNw_warm hW hN, by rw [hU]; exact hP⟩⟩ rfl (by rw [List.length_map]; exact hn) hl.1 (by rw [List.map_append, List.map_reverse]; rfl) (lv_room hcat) hd ⟨by decide, by decide⟩
  intro T0 hT X
  obtain ⟨v, st₀, t, T', Lo, h0, X', hLo, e1, e2, ⟨⟨r, M', hv', hq, hrr, hM', hP'⟩, hz, hkp⟩, stp⟩ := hrun T0 hT X
  cases hv'
  rw [h0] at hz hkp
  have hfA : ∀ q, fA g q → s.heap.size ≤ q := fun q hq => by
    obtain ⟨a, b, hb1, rfl⟩ := hq
    exact hA a b hb1
  have k1 := kk r M' hq (fRs_app.mpr ⟨by cases r with | none => trivial | some v => exact ⟨hrr v rfl, trivial⟩, hrs.2.2⟩) hM' p e s m below meth co T'.heap (locs ++ Lo) ar hE (by rw [e1]; exact hP') ⟨Nat.le_trans hS.1 (by rw [e1]; exact hz), fun q h1 h2 => by rw [e1, hkp q (Nat.lt_of_lt_of_le h1 hS.1) (fun z => h2 (hfA q z))]; exact hS.2.1 q h1 h2, fun q hq => by
      rcases List.mem_append.mp hq with h | h
      · exact hS.2.2 q h
      · exact hfA _ (hLo q h)⟩ hl
  rw [List.map_append] at k1
  obtain ⟨t2, a1, b1⟩ := k1 T' rfl X'
  refine ⟨t2, stp t2 ?_, b1⟩
  cases r <;> exact a1
theorem la_callI {Y' : fY} {ix k k0 c np : Nat} {C : String} {T : u_T} {N : Nat} {sl : List (Option (Nat × (Nat → Nat)))} {P : Int → fM → Prop} (As rest : List fV) (hd : decode code pc = .ok (.invokevirtual ix, 3)) (hv : fVl "LeanDiagonalsLaw" ix C Y' np) (hk : fobj k = some (c, sl)) (hc : fcls[c]? = some (C, T, N)) (hn : As.length = np) (hs : st = As.reverse ++ vr k k0 :: rest) (hcat : ((rest.map (fMv g)).map fun v => v.category).sum ≤ 8) (hroom : Y'.2.2.2.2.1 + 1 ≤ 9 ∧ 8 + (Y'.2.2.1 + 11) + Y'.2.2.2.2.2 ≤ 340) (hct : fCi g Y' (vr k k0 :: As) M P) (kk : ∀ z M', P z M' → lAt g sb L xs (pc + 3) i (vi z :: rest) M') : lAt g sb L xs pc i st M :=
  la_call As rest hd hv hk hc hn hs hcat hroom hct (fun r M' hq => by obtain ⟨z, rfl, h⟩ := hq; exact kk z M' h)
theorem la_callL {Y' : fY} {ix k k0 c np : Nat} {C : String} {T : u_T} {N : Nat} {sl : List (Option (Nat × (Nat → Nat)))} {P : Int → fM → Prop} (As rest : List fV) (hd : decode code pc = .ok (.invokevirtual ix, 3)) (hv : fVl "LeanDiagonalsLaw" ix C Y' np) (hk : fobj k = some (c, sl)) (hc : fcls[c]? = some (C, T, N)) (hn : As.length = np) (hs : st = As.reverse ++ vr k k0 :: rest) (hcat : ((rest.map (fMv g)).map fun v => v.category).sum ≤ 8) (hroom : Y'.2.2.2.2.1 + 1 ≤ 9 ∧ 8 + (Y'.2.2.1 + 11) + Y'.2.2.2.2.2 ≤ 340) (hct : fCl g Y' (vr k k0 :: As) M P) (kk : ∀ z M', P z M' → lAt g sb L xs (pc + 3) i (vl z :: rest) M') : lAt g sb L xs pc i st M :=
  la_call As rest hd hv hk hc hn hs hcat hroom hct (fun r M' hq => by obtain ⟨z, rfl, h⟩ := hq; exact kk z M' h)
theorem la_eq {x y off : Int} (hd : decode code pc = .ok (.if_icmp .eq off, 3)) (ht : (pc : Int) + off = ((1138 : Nat) : Int)) (h : x = y) (kk : lAt g sb L xs 1138 i st M) : lAt g sb L xs pc i (vi y :: vi x :: st) M := by
  subst h
  exact la_p kk (fun hR => hR.2.2) (fun hR p e s m below meth c H locs ar Z hE hS hl k => lv_icmp_eq hE.1.1 hE.1.2.1 hd ht (fun _ => k) (fun q => absurd rfl q))
theorem la_leq {x y off : Int} (h1 : decode code pc = .ok (.lcmp, 1)) (h2 : decode code (pc + 1) = .ok (.ifCond .eq off, 3)) (ht : ((pc + 1 : Nat) : Int) + off = ((1138 : Nat) : Int)) (h : x = y) (kk : lAt g sb L xs 1138 i st M) : lAt g sb L xs pc i (vl y :: vl x :: st) M := by
  subst h
  refine la_p kk (fun hR => hR.2.2) (fun hR p e s m below meth c H locs ar Z hE hS hl k => ?_)
  refine W.lcmp hE.1.1 hE.1.2.1 h1 ?_
  rw [fcmp_kit hR.1 hR.1, fcmp_eq.mpr rfl]
  exact lv_if_eq hE.1.1 hE.1.2.1 h2 ht (fun _ => k) (fun q => absurd rfl q)
theorem la_i2l {x : Int} (hd : decode code pc = .ok (.i2l, 1)) (kk : lAt g sb L xs (pc + 1) i (vl ((Int32.ofInt x).toInt64).toInt :: st) M) : lAt g sb L xs pc i (vi x :: st) M :=
  la_p kk (fun hR => ⟨r64_in _, hR.2⟩) (fun hR p e s m below meth c H locs ar Z hE hS hl k => lv_i2l hE.1.1 hE.1.2.1 hd (by rw [Int64.ofInt_toInt]) k)
theorem la_bip {n : Int} (hd : decode code pc = .ok (.bipush n, 2)) (kk : lAt g sb L xs (pc + 2) i (vi ((Int8.ofInt n).toInt32).toInt :: st) M) : lAt g sb L xs pc i st M :=
  la_p kk (fun hR => ⟨r32_in _, hR⟩) (fun hR p e s m below meth c H locs ar Z hE hS hl k => lv_bipush hE.1.1 hE.1.2.1 hd (by rw [Int32.ofInt_toInt]) k)
theorem la_lshl {x y : Int} (hd : decode code pc = .ok (.lshl, 1)) (kk : lAt g sb L xs (pc + 1) i (vl (Int64.ofInt x <<< ((Int32.ofInt y).toInt64 &&& 63)).toInt :: st) M) : lAt g sb L xs pc i (vi y :: vl x :: st) M :=
  la_p kk (fun hR => ⟨r64_in _, hR.2.2⟩) (fun hR p e s m below meth c H locs ar Z hE hS hl k => lv_lshl hE.1.1 hE.1.2.1 hd (by rw [Int64.ofInt_toInt]) k)
theorem la_ldc2 {ix : Nat} {v : Int64} (hd : decode code pc = .ok (.ldc2_w ix, 3)) (hw : Cond.constantLong "LeanDiagonalsLaw" ix v ∈ lw_tbl) (kk : lAt g sb L xs (pc + 3) i (vl v.toInt :: st) M) : lAt g sb L xs pc i st M :=
  la_p kk (fun hR => ⟨r64_in _, hR⟩) (fun hR p e s m below meth c H locs ar Z hE hS hl k => lv_ldc2 hE.1.1 hE.1.2.1 hE.1.2.2.2.2.1 (hE.1.2.2.2.2.2.1 _ hw) hd (by
    have k : W p g.1 e room_1 s m #[Value.ref sb] below meth c H locs 115 1838 Z (F0 m (pc + 3) ar (.long (Int64.ofInt v.toInt) :: st.map (fMv g))) := k
    rw [Int64.ofInt_toInt] at k
    exact k))
theorem la_land {x y : Int} (hd : decode code pc = .ok (.land, 1)) (kk : lAt g sb L xs (pc + 1) i (vl (Int64.ofInt x &&& Int64.ofInt y).toInt :: st) M) : lAt g sb L xs pc i (vl y :: vl x :: st) M :=
  la_p kk (fun hR => ⟨r64_in _, hR.2.2⟩) (fun hR p e s m below meth c H locs ar Z hE hS hl k => lv_land hE.1.1 hE.1.2.1 hd (by
    have k : W p g.1 e room_1 s m #[Value.ref sb] below meth c H locs 115 1838 Z (F0 m (pc + 1) ar (.long (Int64.ofInt (Int64.ofInt x &&& Int64.ofInt y).toInt) :: st.map (fMv g))) := k
    rw [Int64.ofInt_toInt] at k
    exact k))
theorem la_lor {x y : Int} (hd : decode code pc = .ok (.lor, 1)) (kk : lAt g sb L xs (pc + 1) i (vl (Int64.ofInt x ||| Int64.ofInt y).toInt :: st) M) : lAt g sb L xs pc i (vl y :: vl x :: st) M :=
  la_p kk (fun hR => ⟨r64_in _, hR.2.2⟩) (fun hR p e s m below meth c H locs ar Z hE hS hl k => lv_lor hE.1.1 hE.1.2.1 hd (by
    have k : W p g.1 e room_1 s m #[Value.ref sb] below meth c H locs 115 1838 Z (F0 m (pc + 1) ar (.long (Int64.ofInt (Int64.ofInt x ||| Int64.ofInt y).toInt) :: st.map (fMv g))) := k
    rw [Int64.ofInt_toInt] at k
    exact k))
theorem la_tabIn {x dflt lo hi off : Int} {offs : Array Int} {len : Nat} (tgt : Nat) (hd : decode code pc = .ok (.tableswitch dflt lo hi offs, len)) (h1 : lo ≤ x) (h2 : x ≤ hi) (ho : offs[(x - lo).toNat]? = some off) (ht : (pc : Int) + off = (tgt : Int)) (kk : lAt g sb L xs tgt i st M) : lAt g sb L xs pc i (vi x :: st) M :=
  la_p kk (fun hR => hR.2) (fun hR p e s m below meth c H locs ar Z hE hS hl k => lv_tableIn hE.1.1 hE.1.2.1 hd (by rw [r32_ti hR.1]; omega) (by rw [r32_ti hR.1]; omega) (by rw [r32_ti hR.1]; exact ho) ht k)
theorem la_tabOut {x dflt lo hi : Int} {offs : Array Int} {len : Nat} (tgt : Nat) (hd : decode code pc = .ok (.tableswitch dflt lo hi offs, len)) (h : x < lo ∨ hi < x) (ht : (pc : Int) + dflt = (tgt : Int)) (kk : lAt g sb L xs tgt i st M) : lAt g sb L xs pc i (vi x :: st) M :=
  la_p kk (fun hR => hR.2) (fun hR p e s m below meth c H locs ar Z hE hS hl k => lv_tableOut hE.1.1 hE.1.2.1 hd (by rw [r32_ti hR.1]; exact h) ht k)
end LAW
