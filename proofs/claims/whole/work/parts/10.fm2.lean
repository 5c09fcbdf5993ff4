/-! ===== fields, rows ===== -/
/-- a field's word: whose, which; it stands in the tables -/
def fFl (own : String) (ix c j : Nat) : Prop := ∃ (C : String) (T : u_T) (N : Nat) (ty : Nat → FieldType), fcls[c]? = some (C, T, N) ∧ (∀ w ∈ u_ws C T N, w ∈ ftb) ∧ j < N ∧ Cond.fieldLink own ix (T j).1 (T j).2.1 (T j).2.2.1 ∈ ftb ∧ (∀ k, k < N → parseFieldDescriptor (T k).2.2.1 = some (ty k)) ∧ (∀ a, a < N → ∀ b, b < N → a ≠ b → (T a).2.1 ≠ (T b).2.1) ∧ ((T j).2.2.2 = false → ty j = .int ∨ ty j = .boolean)
section FM2
variable {g : fG} {Y : fY} {pc : Nat} {ls : List (Option fV)} {st : List fV} {M : fM} {Q : Option fV → fM → Prop}
theorem fcell_o {m : Nat → Int} {k i : Nat} {q : Nat × List (Option (Nat × (Nat → Nat)))} (h : fobj k = some q) : fcell g m k i = .inr (q.1, fsl g m i 0 q.2) := by
  unfold fcell
  rw [h]
theorem fcell_i {m : Nat → Int} {k i n : Nat} (h0 : fobj k = none) (h : fari k = some n) : fcell g m k i = .inl (g.2.2.2 0, n, .inl (fun j => Int32.ofInt (m j))) := by
  unfold fcell
  rw [h0, h]
theorem fcell_l {m : Nat → Int} {k i n : Nat} (h0 : fobj k = none) (h1 : fari k = none) (h : farl k = some n) : fcell g m k i = .inl (g.2.2.2 1, n, .inr (.inl (fun j => Int64.ofInt (m j)))) := by
  unfold fcell
  rw [h0, h1, h]
theorem fcell_a {m : Nat → Int} {k i : Nat} {q : Nat × Nat × Nat × (Nat → Nat → Nat)} (h0 : fobj k = none) (h1 : fari k = none) (h2 : farl k = none) (h : fara k = some q) : fcell g m k i = .inl (g.2.2.2 q.1, q.2.1, .inr (.inr (.inr (.inr (fun j => some (g.2.2.1 q.2.2.1 (q.2.2.2 i j))))))) := by
  unfold fcell
  rw [h0, h1, h2, h]
theorem st_get {ix c j k i : Nat} {sl : List (Option (Nat × (Nat → Nat)))} (hd : decode Y.2.1 pc = .ok (.getfield ix, 3)) (hf : fFl Y.1.cls ix c j) (hk : fobj k = some (c, sl)) (hj : sl[j]? = some none) (hl0 : (farl k).isSome = false) (kk : fAt g Y (pc + 3) ls (vi (M k i j) :: st) M Q) : fAt g Y pc ls (vr k i :: st) M Q := by
  intro hR p e s m args below meth co H locs ar hE hP hS hl
  obtain ⟨C, T, N, ty, h1, h2, h3, h4, h5, h6, -⟩ := hf
  have hts := hE.2.2.2.2.2.1
  have hi : i < fcnt k := hR.2.1.1
  have he := fws_at g M hi
  rw [fcell_o hk] at he
  have hm : R32 (M k i j) := by have := hR.2.2 k i j; rw [hl0] at this; exact this
  refine va_get (D := g.2.1) (ci := c) (C := C) (T := T) (N := N) hE.1 hE.2.1 hts (fun w hw => List.mem_cons_of_mem _ (h2 w hw)) hE.2.2.2.2.1 hE.2.2.2.2.2.2.2.1 hP (foff k + i) he h1 j h3 (hts _ (List.mem_cons_of_mem _ h4)) (fun _ h9 => h9) (v := .int (Int32.ofInt (M k i j))) (by rw [fsl_int g _ i sl 0 j hj, Nat.zero_add]) hd ?_
  exact kk ⟨hR.1, ⟨hm, hR.2.1.2⟩, hR.2.2⟩ p e s m args below meth co H locs ar hE hP hS hl
theorem st_getr {ix c j k i k' i' : Nat} {f : Nat → Nat} {sl : List (Option (Nat × (Nat → Nat)))} (hd : decode Y.2.1 pc = .ok (.getfield ix, 3)) (hf : fFl Y.1.cls ix c j) (hk : fobj k = some (c, sl)) (hj : sl[j]? = some (some (k', f))) (hi' : f i = i') (hv : i < fcnt k → i' < fcnt k') (kk : fAt g Y (pc + 3) ls (vr k' i' :: st) M Q) : fAt g Y pc ls (vr k i :: st) M Q := by
  intro hR p e s m args below meth co H locs ar hE hP hS hl
  obtain ⟨C, T, N, ty, h1, h2, h3, h4, h5, h6, -⟩ := hf
  have hts := hE.2.2.2.2.2.1
  have hi : i < fcnt k := hR.2.1.1
  have he := fws_at g M hi
  rw [fcell_o hk] at he
  refine va_get (D := g.2.1) (ci := c) (C := C) (T := T) (N := N) hE.1 hE.2.1 hts (fun w hw => List.mem_cons_of_mem _ (h2 w hw)) hE.2.2.2.2.1 hE.2.2.2.2.2.2.2.1 hP (foff k + i) he h1 j h3 (hts _ (List.mem_cons_of_mem _ h4)) (fun _ h9 => h9) (v := .ref (g.2.2.1 k' i')) (by rw [fsl_ref g _ i sl 0 j hj]; show _ = some (Value.ref (g.2.2.1 k' i')); rw [← hi']) hd ?_
  exact kk ⟨hR.1, ⟨hv hi, hR.2.1.2⟩, hR.2.2⟩ p e s m args below meth co H locs ar hE hP hS hl
theorem st_put {ix c j k i : Nat} {v : Int} {sl : List (Option (Nat × (Nat → Nat)))} (hd : decode Y.2.1 pc = .ok (.putfield ix, 3)) (hf : fFl Y.1.cls ix c j) (hfin : ∀ q, fcls[c]? = some q → (q.2.1 j).2.2.2 = false) (hz : (∀ q, fcls[c]? = some q → parseFieldDescriptor (q.2.1 j).2.2.1 = some .int) ∨ v = 0 ∨ v = 1) (hk : fobj k = some (c, sl)) (hj : sl[j]? = some none) (hl0 : (farl k).isSome = false) (kk : fAt g Y (pc + 3) ls st (fup M k i j v) Q) : fAt g Y pc ls (vi v :: vr k i :: st) M Q := by
  intro hR p e s m args below meth co H locs ar hE hP hS hl
  obtain ⟨C, T, N, ty, h1, h2, h3, h4, h5, h6, h7⟩ := hf
  have hts := hE.2.2.2.2.2.1
  have hi : i < fcnt k := hR.2.1.2.1
  have he := fws_at g M hi
  rw [fcell_o hk] at he
  have hlen : j < (fsl g (M k i) i 0 sl).length := by rw [fsl_len]; exact (List.getElem?_eq_some_iff.mp hj).1
  have hfi : (T j).2.2.2 = false := hfin _ h1
  have hty : ∃ t, parseFieldDescriptor (T j).2.2.1 = some t ∧ narrow t (.int (Int32.ofInt v)) = .int (Int32.ofInt v) ∧ fits t (.int (Int32.ofInt v)) = true := by
    rcases hz with hz | hz
    · exact ⟨.int, hz _ h1, rfl, rfl⟩
    · rcases h7 hfi with e | e
      · exact ⟨.int, by rw [h5 j h3, e], rfl, rfl⟩
      · refine ⟨.boolean, by rw [h5 j h3, e], ?_, ?_⟩ <;> rcases hz with rfl | rfl <;> rfl
  obtain ⟨t, ht1, ht2, ht3⟩ := hty
  refine va_put (D := g.2.1) (ci := c) (C := C) (T := T) (N := N) hE.1 hE.2.1 hts (fun w hw => List.mem_cons_of_mem _ (h2 w hw)) ty h5 h6 hE.2.2.2.2.1 hE.2.2.2.2.2.2.2.1 hP (fws_D hE.2.2.2.2.2.2.2.2.2 M) hS (foff k + i) he h1 j h3 (hts _ (List.mem_cons_of_mem _ h4)) (fun _ h9 => h9) hfi ht1 ht2 ht3 hlen hd (fun H1 locs1 hP1 hD1 hS1 => ?_)
  have e1 : (g.2.2.1 k i, (Sum.inr (c, (fsl g (M k i) i 0 sl).set j (.int (Int32.ofInt v))) : va_E)) = (g.2.2.1 k i, fcell g (fup M k i j v k i) k i) := by
    rw [fcell_o hk, fsl_set g (M k i) i v sl 0 j hj, fup_at, Nat.zero_add]
  have hP2 : va_P g.2.1 fcls ((fws g M).set (foff k + i) (g.2.2.1 k i, Sum.inr (c, (fsl g (M k i) i 0 sl).set j (.int (Int32.ofInt v))))) H1 := hP1
  rw [e1, fws_set g hi (fun a b hab => fup_off hab)] at hP2
  exact kk ⟨hR.1, hR.2.1.2.2, fRM_up hR.2.2 (by rw [hl0]; exact hR.2.1.1)⟩ p e s m args below meth co H1 locs1 ar hE hP2 hS1 hl
theorem fin_of {z : Int} {j n : Nat} (hz : R32 z) (hj : z = (j : Int)) (hn : j < n) : vp_in (Int32.ofInt z) n := by
  rw [vp_in_iff, r32_ti hz]
  omega
theorem st_iald {k i j n : Nat} {z : Int} (hd : decode Y.2.1 pc = .ok (.iaload, 1)) (h0 : fobj k = none) (ha : fari k = some n) (hl0 : (farl k).isSome = false) (hj : z = (j : Int)) (hn : j < n) (kk : fAt g Y (pc + 1) ls (vi (M k i j) :: st) M Q) : fAt g Y pc ls (vi z :: vr k i :: st) M Q := by
  intro hR p e s m args below meth co H locs ar hE hP hS hl
  have hi : i < fcnt k := hR.2.1.2.1
  have he := fws_at g M hi
  rw [fcell_i h0 ha] at he
  have hm : R32 (M k i j) := by have := hR.2.2 k i j; rw [hl0] at this; exact this
  refine va_iald hE.1 hE.2.1 hE.2.2.2.2.2.2.2.1 hP (foff k + i) 0 he rfl (fin_of hR.2.1.1 hj hn) hd ?_
  rw [r32_nat hj hR.2.1.1]
  exact kk ⟨hR.1, ⟨hm, hR.2.1.2.2⟩, hR.2.2⟩ p e s m args below meth co H locs ar hE hP hS hl
theorem st_lald {k i j n : Nat} {z : Int} (hd : decode Y.2.1 pc = .ok (.laload, 1)) (h0 : fobj k = none) (h1 : fari k = none) (ha : farl k = some n) (hj : z = (j : Int)) (hn : j < n) (kk : fAt g Y (pc + 1) ls (vl (M k i j) :: st) M Q) : fAt g Y pc ls (vi z :: vr k i :: st) M Q := by
  intro hR p e s m args below meth co H locs ar hE hP hS hl
  have hi : i < fcnt k := hR.2.1.2.1
  have he := fws_at g M hi
  rw [fcell_l h0 h1 ha] at he
  have hm : R64 (M k i j) := by have := hR.2.2 k i j; rw [ha] at this; exact this
  refine va_lald hE.1 hE.2.1 hE.2.2.2.2.2.2.2.1 hP (foff k + i) 1 he rfl (fin_of hR.2.1.1 hj hn) hd ?_
  rw [r32_nat hj hR.2.1.1]
  exact kk ⟨hR.1, ⟨hm, hR.2.1.2.2⟩, hR.2.2⟩ p e s m args below meth co H locs ar hE hP hS hl
theorem st_aald {k i j : Nat} {z : Int} {q : Nat × Nat × Nat × (Nat → Nat → Nat)} {i' : Nat} (hd : decode Y.2.1 pc = .ok (.aaload, 1)) (h0 : fobj k = none) (h1 : fari k = none) (h2 : farl k = none) (ha : fara k = some q) (ht : ∃ ty, (fty g)[q.1]? = some (g.2.2.2 q.1, ty) ∧ ty.isReference = true) (hj : z = (j : Int)) (hn : j < q.2.1) (hi' : q.2.2.2 i j = i') (hv : i < fcnt k → i' < fcnt q.2.2.1) (kk : fAt g Y (pc + 1) ls (vr q.2.2.1 i' :: st) M Q) : fAt g Y pc ls (vi z :: vr k i :: st) M Q := by
  intro hR p e s m args below meth co H locs ar hE hP hS hl
  have hi : i < fcnt k := hR.2.1.2.1
  have he := fws_at g M hi
  rw [fcell_a h0 h1 h2 ha] at he
  obtain ⟨ty, ht1, ht2⟩ := ht
  have hin := fin_of hR.2.1.1 hj hn
  have hnat := r32_nat hj hR.2.1.1
  have hlt : (Int32.ofInt z).toNatClampNeg < q.2.1 := by rw [hnat]; exact hn
  refine W.aald (v := .ref (g.2.2.1 q.2.2.1 i')) (ty := ty) hE.1 hE.2.1 (hP (foff k + i) _ he) ((hE.2.2.2.2.2.2.2.1.2 q.1 _ ht1).1 q.2.1 (fun j => va_rf (some (g.2.2.1 q.2.2.1 (q.2.2.2 i j))))) ht2 (fun q => by cases q) (by show ¬ (_ ∨ (arrV _ _ _).slots.size ≤ _); rw [arrV_size]; exact hin) (by show (arrV _ _ _).slots[_]? = _; rw [arrV_read _ _ hlt, hnat]; show some (Value.ref (g.2.2.1 q.2.2.1 (q.2.2.2 i j))) = _; rw [hi']) rfl rfl hd ?_
  exact kk ⟨hR.1, ⟨hv hi, hR.2.1.2.2⟩, hR.2.2⟩ p e s m args below meth co H locs ar hE hP hS hl
theorem st_iast {k i j n : Nat} {z v : Int} (hd : decode Y.2.1 pc = .ok (.iastore, 1)) (h0 : fobj k = none) (ha : fari k = some n) (hl0 : (farl k).isSome = false) (hj : z = (j : Int)) (hn : j < n) (kk : fAt g Y (pc + 1) ls st (fup M k i j v) Q) : fAt g Y pc ls (vi v :: vi z :: vr k i :: st) M Q := by
  intro hR p e s m args below meth co H locs ar hE hP hS hl
  have hi : i < fcnt k := hR.2.1.2.2.1
  have he := fws_at g M hi
  rw [fcell_i h0 ha] at he
  refine va_iast hE.1 hE.2.1 hE.2.2.2.2.2.2.2.1 hP (fws_D hE.2.2.2.2.2.2.2.2.2 M) hS (foff k + i) 0 he rfl (fin_of hR.2.1.2.1 hj hn) hd (fun H1 locs1 hP1 hD1 hS1 => ?_)
  rw [r32_nat hj hR.2.1.2.1] at hP1
  have e1 : (g.2.2.1 k i, (Sum.inl (g.2.2.2 0, n, .inl (upd (fun j => Int32.ofInt (M k i j)) j (Int32.ofInt v))) : va_E)) = (g.2.2.1 k i, fcell g (fup M k i j v k i) k i) := by
    rw [fcell_i h0 ha, fup_at]
    congr 5
    funext a
    unfold upd
    by_cases h : a = j
    · simp [h]
    · simp [h]
  rw [e1, fws_set g hi (fun a b hab => fup_off hab)] at hP1
  exact kk ⟨hR.1, hR.2.1.2.2.2, fRM_up hR.2.2 (by rw [hl0]; exact hR.2.1.1)⟩ p e s m args below meth co H1 locs1 ar hE hP1 hS1 hl
theorem st_last {k i j n : Nat} {z v : Int} (hd : decode Y.2.1 pc = .ok (.lastore, 1)) (h0 : fobj k = none) (h1 : fari k = none) (ha : farl k = some n) (hj : z = (j : Int)) (hn : j < n) (kk : fAt g Y (pc + 1) ls st (fup M k i j v) Q) : fAt g Y pc ls (vl v :: vi z :: vr k i :: st) M Q := by
  intro hR p e s m args below meth co H locs ar hE hP hS hl
  have hi : i < fcnt k := hR.2.1.2.2.1
  have he := fws_at g M hi
  rw [fcell_l h0 h1 ha] at he
  refine va_last hE.1 hE.2.1 hE.2.2.2.2.2.2.2.1 hP (fws_D hE.2.2.2.2.2.2.2.2.2 M) hS (foff k + i) 1 he rfl (fin_of hR.2.1.2.1 hj hn) hd (fun H1 locs1 hP1 hD1 hS1 => ?_)
  rw [r32_nat hj hR.2.1.2.1] at hP1
  have e1 : (g.2.2.1 k i, (Sum.inl (g.2.2.2 1, n, .inr (.inl (vp_updL (fun j => Int64.ofInt (M k i j)) j (Int64.ofInt v)))) : va_E)) = (g.2.2.1 k i, fcell g (fup M k i j v k i) k i) := by
    rw [fcell_l h0 h1 ha, fup_at]
    congr 6
    funext a
    unfold vp_updL
    by_cases h : a = j
    · simp [h]
    · simp [h]
  rw [e1, fws_set g hi (fun a b hab => fup_off hab)] at hP1
  exact kk ⟨hR.1, hR.2.1.2.2.2, fRM_up hR.2.2 (by rw [ha]; exact hR.2.1.1)⟩ p e s m args below meth co H1 locs1 ar hE hP1 hS1 hl
end FM2
