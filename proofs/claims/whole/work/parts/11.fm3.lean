/-! ===== calls ===== -/
def fVl (own : String) (ix : Nat) (C : String) (Y' : fY) (np : Nat) : Prop := Cond.methodLink own ix Y'.1 ∈ ftb ∧ Cond.instanceMethod Y'.1 ∈ ftb ∧ Cond.selects C Y'.1 Y'.1 ∈ ftb ∧ Cond.initialized C ∈ ftb ∧ Cond.code Y'.1 Y'.2.1 Y'.2.2.1 Y'.2.2.2.1 ∈ ftb ∧ Y'.1.cls = C ∧ Y'.1.cls ≠ "java/lang/invoke/MethodHandle" ∧ Y'.1.cls ≠ "java/lang/invoke/VarHandle" ∧ (parseMethodDescriptor Y'.1.desc).map (fun d => d.parameters.length) = some np
def fSl (own : String) (ix : Nat) (Y' : fY) (np : Nat) : Prop := Cond.methodLink own ix Y'.1 ∈ ftb ∧ Cond.static Y'.1 ∈ ftb ∧ Cond.initialized Y'.1.cls ∈ ftb ∧ Cond.code Y'.1 Y'.2.1 Y'.2.2.1 Y'.2.2.2.1 ∈ ftb ∧ Y'.1.cls ≠ "java/lang/invoke/MethodHandle" ∧ Y'.1.cls ≠ "java/lang/invoke/VarHandle" ∧ (parseMethodDescriptor Y'.1.desc).map (fun d => d.parameters.length) = some np
def fNl (own : String) (ix : Nat) (Y' : fY) (host : String) (np : Nat) : Prop := Cond.methodLinkNest own ix Y'.1 host ∈ fnst ∧ Cond.static Y'.1 ∈ ftb ∧ Cond.initialized Y'.1.cls ∈ ftb ∧ Cond.code Y'.1 Y'.2.1 Y'.2.2.1 Y'.2.2.2.1 ∈ ftb ∧ Y'.1.cls ≠ "java/lang/invoke/MethodHandle" ∧ Y'.1.cls ≠ "java/lang/invoke/VarHandle" ∧ (parseMethodDescriptor Y'.1.desc).map (fun d => d.parameters.length) = some np
abbrev fRo (Y Y' : fY) : Prop := Y'.2.2.2.2.1 + 1 ≤ Y.2.2.2.2.1 ∧ 8 + (Y'.2.2.1 + 11) + Y'.2.2.2.2.2 ≤ Y.2.2.2.2.2
/-- contracts by what is answered -/
def fCi (g : fG) (Y : fY) (av : List fV) (M : fM) (P : Int → fM → Prop) : Prop := fCt g Y av M (fun r M' => ∃ z, r = some (vi z) ∧ P z M')
def fCl (g : fG) (Y : fY) (av : List fV) (M : fM) (P : Int → fM → Prop) : Prop := fCt g Y av M (fun r M' => ∃ z, r = some (vl z) ∧ P z M')
def fCv (g : fG) (Y : fY) (av : List fV) (M : fM) (P : fM → Prop) : Prop := fCt g Y av M (fun r M' => r = none ∧ P M')
theorem fwd_good {Y Y' : fY} (h : Cond.code Y'.1 Y'.2.1 Y'.2.2.1 Y'.2.2.2.1 ∈ ftb) : GoodIn (fwd Y) (fwd Y') := by
  intro w hw
  rcases List.mem_cons.mp hw with rfl | hw
  · exact ⟨List.mem_cons_of_mem _ h, good_of_word (ftb_good h)⟩
  · exact ⟨List.mem_cons_of_mem _ hw, good_of_word (ftb_good hw)⟩
theorem fwd_goodV {Y Y' : fY} {own C : String} {ix : Nat} (h1 : Cond.methodLink own ix Y'.1 ∈ ftb) (h2 : Cond.instanceMethod Y'.1 ∈ ftb) (h3 : Cond.selects C Y'.1 Y'.1 ∈ ftb) (h4 : Cond.initialized C ∈ ftb) (h5 : Cond.code Y'.1 Y'.2.1 Y'.2.2.1 Y'.2.2.2.1 ∈ ftb) : GoodIn (fwd Y) (wsV own ix C Y'.1 (fwd Y')) := by
  intro w hw
  unfold wsV at hw
  rcases List.mem_append.mp hw with hw | hw
  · have hm : w ∈ ftb := by
      simp only [List.mem_cons, List.not_mem_nil, or_false] at hw
      rcases hw with rfl | rfl | rfl | rfl
      · exact h1
      · exact h2
      · exact h3
      · exact h4
    exact ⟨List.mem_cons_of_mem _ hm, good_of_word (ftb_good hm)⟩
  · exact fwd_good h5 w hw
section FM3
variable {g : fG} {Y : fY} {pc : Nat} {ls : List (Option fV)} {st : List fV} {M : fM} {Q : Option fV → fM → Prop}
theorem fBlind (av : List fV) : FrameBlind (va_Pc (av.map (fMv g)) (fun U => va_K g.2.1 fcls (fty g) U ∧ fNw U ∧ va_P g.2.1 fcls (fws g M) U.heap)) := by
  intro a U gg mk q
  obtain ⟨q0, q1, q2, q3⟩ := q
  exact ⟨q0, va_K.moved (u := U) (U := U.calling gg mk a) (Vm.Alike.refl U.vm) q1, fun w hw => va_Nw.same (by simp only [fnst, List.mem_singleton] at hw; rw [hw]; rfl) (u := U) rfl (q2 w hw), q3⟩
theorem fNw_warm {s U : State} (hW : s.WarmedH U.vm) (h : fNw s) : fNw U := by
  intro w hw
  have h1 := h w hw
  simp only [fnst, List.mem_singleton] at hw
  subst hw
  exact va_Nw.warmM hW h1
theorem fcall {p : Program} {e : Env} {s : State} {m : MethodId} {args : Array Value} {below : List Frame} {meth : Method} {c : Code} {H : Heap} {locs : List Loc} {ar : Array Slot} {st0 rest : List Value} {Q' : Option fV → fM → Prop} {a : Array Value} {Z : State → Prop}
    (hr : va_Run p g.1 e (frm Y) s m args below meth c H locs 0 0 0 0 (F0 m pc ar st0) rest (fQc g Q' a) (fA g)) (hS : va_S (fA g) s.heap H locs)
    (kk : ∀ (r : Option fV) (M' : fM) (H1 : Heap) (locs1 : List Loc), Q' r M' → (∀ v, r = some v → fR v) → fRM M' → va_P g.2.1 fcls (fws g M') H1 → va_S (fA g) s.heap H1 locs1 → W p g.1 e (frm Y) s m args below meth c H1 locs1 0 0 Z (F0 m (pc + 3) ar ((r.map (fMv g)).toList ++ rest))) : W p g.1 e (frm Y) s m args below meth c H locs 0 0 Z (F0 m pc ar st0) := by
  intro T hT X
  obtain ⟨v, st₀, t, T', L, h0, X', hL, e1, e2, ⟨⟨r, M', hv, hq, hrr, hM', hP'⟩, hz, hk⟩, st⟩ := hr T hT X
  cases hv
  rw [h0] at hz hk
  obtain ⟨t2, a1, b1⟩ := kk r M' T'.heap (locs ++ L) hq hrr hM' (by rw [e1]; exact hP') ⟨Nat.le_trans hS.1 (by rw [e1]; exact hz), fun q h1 h2 => by rw [e1, hk q (Nat.lt_of_lt_of_le h1 hS.1) h2]; exact hS.2.1 q h1 h2, fun q hq => by
      rcases List.mem_append.mp hq with h | h
      · exact hS.2.2 q h
      · exact hL q h⟩ T' rfl X'
  exact ⟨t2, st t2 a1, b1⟩
theorem fRs_app : ∀ {a b : List fV}, fRs (a ++ b) ↔ fRs a ∧ fRs b
  | [], b => ⟨fun h => ⟨trivial, h⟩, fun h => h.2⟩
  | v :: t, b => by
    show fR v ∧ fRs (t ++ b) ↔ (fR v ∧ fRs t) ∧ fRs b
    rw [fRs_app, and_assoc]
theorem fRs_rev {a : List fV} (h : fRs a.reverse) : fRs a := by
  induction a with
  | nil => trivial
  | cons v t ih =>
    rw [List.reverse_cons, fRs_app] at h
    exact ⟨h.2.1, ih h.1⟩
theorem st_callV {Y' : fY} {ix k i c np : Nat} {C : String} {T : u_T} {N : Nat} {sl : List (Option (Nat × (Nat → Nat)))} {Q' : Option fV → fM → Prop} (As rest : List fV) (hd : decode Y.2.1 pc = .ok (.invokevirtual ix, 3)) (hv : fVl Y.1.cls ix C Y' np) (hk : fobj k = some (c, sl)) (hc : fcls[c]? = some (C, T, N)) (hn : As.length = np) (hs : st = As.reverse ++ vr k i :: rest) (hcat : ((rest.map (fMv g)).map fun v => v.category).sum ≤ 8) (hroom : fRo Y Y') (hct : fCt g Y' (vr k i :: As) M Q') (kk : ∀ r M', Q' r M' → fAt g Y (pc + 3) ls (r.toList ++ rest) M' Q) : fAt g Y pc ls st M Q := by
  subst hs
  intro hR p e s m args below meth co H locs ar hE hP hS hl
  obtain ⟨v1, v2, v3, v4, v5, v6, v7, v8, v9⟩ := hv
  have hts := hE.2.2.2.2.2.1
  have hrs := fRs_app.mp hR.2.1
  have hi : i < fcnt k := hrs.2.1
  have he := fws_at g M hi
  rw [fcell_o hk] at he
  have hM := hct hE.2.2.2.2.2.2.2.2.2 ⟨hi, fRs_rev hrs.1⟩ hR.2.2
  refine fcall (Q' := Q') (va_runV (As := As.map (fMv g)) (rest := rest.map (fMv g)) (b := g.2.2.1 k i) (C := C) ⟨hE.1, hE.2.1, hE.2.2.2.1, hE.2.2.2.2.1, hts⟩ hM (cwV np hts (fwd_goodV v1 v2 v3 v4 v5) rfl rfl rfl ⟨v6, v7, v8, v9⟩ hroom) ⟨fBlind (vr k i :: As), va_recv hE.2.2.2.2.2.2.2.1 hP hc he, fun U hU hW => ⟨rfl, va_K.moved hW.alike hE.2.2.2.2.2.2.2.1, fNw_warm hW hE.2.2.2.2.2.2.2.2.1, by rw [hU]; exact hP⟩⟩ rfl (by rw [List.length_map]; exact hn) hl.1 (by rw [List.map_append, List.map_reverse]; rfl) (lv_room hcat) hd ⟨Nat.le_refl _, Nat.le_refl _⟩) hS (fun r M' H1 locs1 hq hr hM1 hP1 hS1 => ?_)
  have k1 := kk r M' hq ⟨hR.1, fRs_app.mpr ⟨by cases r with | none => trivial | some v => exact ⟨hr v rfl, trivial⟩, hrs.2.2⟩, hM1⟩ p e s m args below meth co H1 locs1 ar hE hP1 hS1 hl
  rw [List.map_append] at k1
  cases r <;> exact k1
theorem st_callS {Y' : fY} {ix np : Nat} {Q' : Option fV → fM → Prop} (As rest : List fV) (hd : decode Y.2.1 pc = .ok (.invokestatic ix, 3)) (hv : fSl Y.1.cls ix Y' np) (hn : As.length = np) (hs : st = As.reverse ++ rest) (hcat : ((rest.map (fMv g)).map fun v => v.category).sum ≤ 8) (hroom : fRo Y Y') (hct : fCt g Y' As M Q') (kk : ∀ r M', Q' r M' → fAt g Y (pc + 3) ls (r.toList ++ rest) M' Q) : fAt g Y pc ls st M Q := by
  subst hs
  intro hR p e s m args below meth co H locs ar hE hP hS hl
  obtain ⟨v1, v3, v4, v5, v7, v8, v9⟩ := hv
  have hts := hE.2.2.2.2.2.1
  have hrs := fRs_app.mp hR.2.1
  have hM := hct hE.2.2.2.2.2.2.2.2.2 (fRs_rev hrs.1) hR.2.2
  refine fcall (Q' := Q') (va_runS (As := As.map (fMv g)) (rest := rest.map (fMv g)) ⟨hE.1, hE.2.1, hE.2.2.2.1, hE.2.2.2.2.1, hts⟩ hM ⟨callB_of np hts (fwd_good v5) rfl rfl rfl (hts _ (List.mem_cons_of_mem _ v4)) (hts _ (List.mem_cons_of_mem _ v1)) ⟨v7, v8, v9⟩ hroom, hts _ (List.mem_cons_of_mem _ v3)⟩ ⟨fBlind As, fun U hU hW => ⟨rfl, va_K.moved hW.alike hE.2.2.2.2.2.2.2.1, fNw_warm hW hE.2.2.2.2.2.2.2.2.1, by rw [hU]; exact hP⟩⟩ rfl (by rw [List.length_map]; exact hn) hl.1 (by rw [List.map_append, List.map_reverse]) (lv_room hcat) hd ⟨Nat.le_refl _, Nat.le_refl _⟩) hS (fun r M' H1 locs1 hq hr hM1 hP1 hS1 => ?_)
  have k1 := kk r M' hq ⟨hR.1, fRs_app.mpr ⟨by cases r with | none => trivial | some v => exact ⟨hr v rfl, trivial⟩, hrs.2⟩, hM1⟩ p e s m args below meth co H1 locs1 ar hE hP1 hS1 hl
  rw [List.map_append] at k1
  cases r <;> exact k1
theorem st_callN {Y' : fY} {ix np : Nat} {host : String} {Q' : Option fV → fM → Prop} (As rest : List fV) (hd : decode Y.2.1 pc = .ok (.invokestatic ix, 3)) (hv : fNl Y.1.cls ix Y' host np) (hn : As.length = np) (hs : st = As.reverse ++ rest) (hcat : ((rest.map (fMv g)).map fun v => v.category).sum ≤ 8) (hroom : fRo Y Y') (hct : fCt g Y' As M Q') (kk : ∀ r M', Q' r M' → fAt g Y (pc + 3) ls (r.toList ++ rest) M' Q) : fAt g Y pc ls st M Q := by
  subst hs
  intro hR p e s m args below meth co H locs ar hE hP hS hl
  obtain ⟨v1, v3, v4, v5, v7, v8, v9⟩ := hv
  have hts := hE.2.2.2.2.2.1
  have hrs := fRs_app.mp hR.2.1
  have hM := hct hE.2.2.2.2.2.2.2.2.2 (fRs_rev hrs.1) hR.2.2
  refine fcall (Q' := Q') (va_runSN (As := As.map (fMv g)) (rest := rest.map (fMv g)) ⟨hE.1, hE.2.1, hE.2.2.2.1, hE.2.2.2.2.1, hts⟩ hM ⟨va_cnB np hts (fwd_good v5) rfl rfl rfl (hE.2.2.2.2.2.2.2.2.1 _ v1) (hts _ (List.mem_cons_of_mem _ v4)) ⟨v7, v8, v9⟩ hroom, hts _ (List.mem_cons_of_mem _ v3), trivial⟩ ⟨fBlind As, fun U hU hW => ⟨rfl, va_K.moved hW.alike hE.2.2.2.2.2.2.2.1, fNw_warm hW hE.2.2.2.2.2.2.2.2.1, by rw [hU]; exact hP⟩⟩ rfl (by rw [List.length_map]; exact hn) hl.1 (by rw [List.map_append, List.map_reverse]) (lv_room hcat) hd ⟨Nat.le_refl _, Nat.le_refl _⟩) hS (fun r M' H1 locs1 hq hr hM1 hP1 hS1 => ?_)
  have k1 := kk r M' hq ⟨hR.1, fRs_app.mpr ⟨by cases r with | none => trivial | some v => exact ⟨hr v rfl, trivial⟩, hrs.2⟩, hM1⟩ p e s m args below meth co H1 locs1 ar hE hP1 hS1 hl
  rw [List.map_append] at k1
  cases r <;> exact k1
end FM3
