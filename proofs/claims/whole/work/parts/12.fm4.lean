/-! ===== calls by what they answer, and the members of the library ===== -/
abbrev fI (P : Int → fM → Prop) : Option fV → fM → Prop := fun r M' => ∃ z, r = some (vi z) ∧ P z M'
abbrev fL (P : Int → fM → Prop) : Option fV → fM → Prop := fun r M' => ∃ z, r = some (vl z) ∧ P z M'
abbrev fN (P : fM → Prop) : Option fV → fM → Prop := fun r M' => r = none ∧ P M'
section FM4
variable {g : fG} {Y : fY} {pc : Nat} {ls : List (Option fV)} {st : List fV} {M : fM} {Q : Option fV → fM → Prop}
theorem st_callVi {Y' : fY} {ix k i c np : Nat} {C : String} {T : u_T} {N : Nat} {sl : List (Option (Nat × (Nat → Nat)))} {P : Int → fM → Prop} (As rest : List fV) (hd : decode Y.2.1 pc = .ok (.invokevirtual ix, 3)) (hv : fVl Y.1.cls ix C Y' np) (hk : fobj k = some (c, sl)) (hc : fcls[c]? = some (C, T, N)) (hn : As.length = np) (hs : st = As.reverse ++ vr k i :: rest) (hcat : ((rest.map (fMv g)).map fun v => v.category).sum ≤ 8) (hroom : fRo Y Y') (hct : fCi g Y' (vr k i :: As) M P) (kk : ∀ z M', P z M' → fAt g Y (pc + 3) ls (vi z :: rest) M' Q) : fAt g Y pc ls st M Q :=
  st_callV As rest hd hv hk hc hn hs hcat hroom hct (fun r M' hq => by obtain ⟨z, rfl, h⟩ := hq; exact kk z M' h)
theorem st_callVl {Y' : fY} {ix k i c np : Nat} {C : String} {T : u_T} {N : Nat} {sl : List (Option (Nat × (Nat → Nat)))} {P : Int → fM → Prop} (As rest : List fV) (hd : decode Y.2.1 pc = .ok (.invokevirtual ix, 3)) (hv : fVl Y.1.cls ix C Y' np) (hk : fobj k = some (c, sl)) (hc : fcls[c]? = some (C, T, N)) (hn : As.length = np) (hs : st = As.reverse ++ vr k i :: rest) (hcat : ((rest.map (fMv g)).map fun v => v.category).sum ≤ 8) (hroom : fRo Y Y') (hct : fCl g Y' (vr k i :: As) M P) (kk : ∀ z M', P z M' → fAt g Y (pc + 3) ls (vl z :: rest) M' Q) : fAt g Y pc ls st M Q :=
  st_callV As rest hd hv hk hc hn hs hcat hroom hct (fun r M' hq => by obtain ⟨z, rfl, h⟩ := hq; exact kk z M' h)
theorem st_callVv {Y' : fY} {ix k i c np : Nat} {C : String} {T : u_T} {N : Nat} {sl : List (Option (Nat × (Nat → Nat)))} {P : fM → Prop} (As rest : List fV) (hd : decode Y.2.1 pc = .ok (.invokevirtual ix, 3)) (hv : fVl Y.1.cls ix C Y' np) (hk : fobj k = some (c, sl)) (hc : fcls[c]? = some (C, T, N)) (hn : As.length = np) (hs : st = As.reverse ++ vr k i :: rest) (hcat : ((rest.map (fMv g)).map fun v => v.category).sum ≤ 8) (hroom : fRo Y Y') (hct : fCv g Y' (vr k i :: As) M P) (kk : ∀ M', P M' → fAt g Y (pc + 3) ls rest M' Q) : fAt g Y pc ls st M Q :=
  st_callV As rest hd hv hk hc hn hs hcat hroom hct (fun r M' hq => by obtain ⟨rfl, h⟩ := hq; exact kk M' h)
theorem st_callSi {Y' : fY} {ix np : Nat} {P : Int → fM → Prop} (As rest : List fV) (hd : decode Y.2.1 pc = .ok (.invokestatic ix, 3)) (hv : fSl Y.1.cls ix Y' np) (hn : As.length = np) (hs : st = As.reverse ++ rest) (hcat : ((rest.map (fMv g)).map fun v => v.category).sum ≤ 8) (hroom : fRo Y Y') (hct : fCi g Y' As M P) (kk : ∀ z M', P z M' → fAt g Y (pc + 3) ls (vi z :: rest) M' Q) : fAt g Y pc ls st M Q :=
  st_callS As rest hd hv hn hs hcat hroom hct (fun r M' hq => by obtain ⟨z, rfl, h⟩ := hq; exact kk z M' h)
theorem st_callSl {Y' : fY} {ix np : Nat} {P : Int → fM → Prop} (As rest : List fV) (hd : decode Y.2.1 pc = .ok (.invokestatic ix, 3)) (hv : fSl Y.1.cls ix Y' np) (hn : As.length = np) (hs : st = As.reverse ++ rest) (hcat : ((rest.map (fMv g)).map fun v => v.category).sum ≤ 8) (hroom : fRo Y Y') (hct : fCl g Y' As M P) (kk : ∀ z M', P z M' → fAt g Y (pc + 3) ls (vl z :: rest) M' Q) : fAt g Y pc ls st M Q :=
  st_callS As rest hd hv hn hs hcat hroom hct (fun r M' hq => by obtain ⟨z, rfl, h⟩ := hq; exact kk z M' h)
theorem st_callNl {Y' : fY} {ix np : Nat} {host : String} {P : Int → fM → Prop} (As rest : List fV) (hd : decode Y.2.1 pc = .ok (.invokestatic ix, 3)) (hv : fNl Y.1.cls ix Y' host np) (hn : As.length = np) (hs : st = As.reverse ++ rest) (hcat : ((rest.map (fMv g)).map fun v => v.category).sum ≤ 8) (hroom : fRo Y Y') (hct : fCl g Y' As M P) (kk : ∀ z M', P z M' → fAt g Y (pc + 3) ls (vl z :: rest) M' Q) : fAt g Y pc ls st M Q :=
  st_callN As rest hd hv hn hs hcat hroom hct (fun r M' hq => by obtain ⟨z, rfl, h⟩ := hq; exact kk z M' h)
theorem st_abs {ix : Nat} {x : Int} (hd : decode Y.2.1 pc = .ok (.invokestatic ix, 3)) (h1 : Cond.methodLink Y.1.cls ix Lib.Math.abs.name ∈ ftb) (h2 : Cond.static Lib.Math.abs.name ∈ ftb) (h3 : Cond.initialized "java/lang/Math" ∈ ftb) (h4 : Cond.code Lib.Math.abs.name Lib.Math.abs.code 1 (some .int) ∈ ftb) (hf : 1 ≤ Y.2.2.2.2.1) (hlo : ((st.map (fMv g)).map fun v => v.category).sum + 13 ≤ Y.2.2.2.2.2) (hx : R32 (if 0 ≤ x then x else -x)) (kk : fAt g Y (pc + 3) ls (vi (if 0 ≤ x then x else -x) :: st) M Q) : fAt g Y pc ls (vi x :: st) M Q :=
  fAt_p kk (fun hR => ⟨hx, hR.2.1.2⟩) (fun hR p e s m args below meth c H locs ar Z hE hl k => va_mabs hE.1 hE.2.1 (hE.2.2.2.1.trans hl.1.symm) hE.2.2.2.2.1 (hE.2.2.2.2.2.1 _ (List.mem_cons_of_mem _ h1)) (hE.2.2.2.2.2.1 _ (List.mem_cons_of_mem _ h2)) (hE.2.2.2.2.2.1 _ (List.mem_cons_of_mem _ h3)) (hE.2.2.2.2.2.1 _ (List.mem_cons_of_mem _ h4)) hf hlo (Nat.le_refl _) (Nat.le_refl _) hd (by
    have e1 : (if (0 : Int32) ≤ Int32.ofInt x then Int32.ofInt x else 0 - Int32.ofInt x) = Int32.ofInt (if 0 ≤ x then x else -x) := by
      by_cases h : 0 ≤ x
      · rw [if_pos h, if_pos ((r32_zle hR.2.1.1).mpr h)]
      · rw [if_neg h, if_neg (fun z => h ((r32_zle hR.2.1.1).mp z)), ← r32_0, ← Int32.ofInt_sub]
        congr 1
        omega
    rw [e1]; exact k))
theorem st_minl {ix : Nat} {x y : Int} (hd : decode Y.2.1 pc = .ok (.invokestatic ix, 3)) (h1 : Cond.methodLink Y.1.cls ix Lib.MathLoose.min_long.x ∈ ftb) (h2 : Cond.static Lib.MathLoose.min_long.x ∈ ftb) (h3 : Cond.initialized "java/lang/Math" ∈ ftb) (h4 : Cond.code Lib.MathLoose.min_long.x Lib.MathLoose.min_long.code 4 (some .long) ∈ ftb) (hf : 1 ≤ Y.2.2.2.2.1) (hlo : ((st.map (fMv g)).map fun v => v.category).sum + 15 ≤ Y.2.2.2.2.2) (kk : fAt g Y (pc + 3) ls (vl (if y < x then y else x) :: st) M Q) : fAt g Y pc ls (vl y :: vl x :: st) M Q :=
  fAt_p kk (fun hR => ⟨by split; exact hR.2.1.1; exact hR.2.1.2.1, hR.2.1.2.2⟩) (fun hR p e s m args below meth c H locs ar Z hE hl k => va_mmin_long hE.1 hE.2.1 (hE.2.2.2.1.trans hl.1.symm) hE.2.2.2.2.1 (hE.2.2.2.2.2.1 _ (List.mem_cons_of_mem _ h1)) (hE.2.2.2.2.2.1 _ (List.mem_cons_of_mem _ h2)) (hE.2.2.2.2.2.1 _ (List.mem_cons_of_mem _ h3)) (hE.2.2.2.2.2.1 _ (List.mem_cons_of_mem _ h4)) hf hlo (Nat.le_refl _) (Nat.le_refl _) hd (by
    have e1 : (if Int64.ofInt y < Int64.ofInt x then Int64.ofInt y else Int64.ofInt x) = Int64.ofInt (if y < x then y else x) := by
      by_cases h : y < x
      · rw [if_pos h, if_pos ((r64_lt hR.2.1.1 hR.2.1.2.1).mpr h)]
      · rw [if_neg h, if_neg (fun z => h ((r64_lt hR.2.1.1 hR.2.1.2.1).mp z))]
    rw [e1]; exact k))
/-- System.arraycopy of ints -/
theorem st_copyi {ix k i k' i' a b n : Nat} {n0 n1 : Nat} {zs zd zn : Int} (hd : decode Y.2.1 pc = .ok (.invokestatic ix, 3)) (h1 : Cond.methodLink Y.1.cls ix arraycopyName ∈ ftb) (h2 : Cond.native arraycopyName ∈ ftb) (h3 : Cond.static arraycopyName ∈ ftb) (h4 : Cond.initialized "java/lang/System" ∈ ftb) (q0 : fobj k = none) (q1 : fari k = some n0) (q2 : fobj k' = none) (q3 : fari k' = some n1) (q4 : (farl k).isSome = (farl k').isSome) (hs : zs = (a : Int)) (hdp : zd = (b : Int)) (hn : zn = (n : Int)) (hb0 : a + n ≤ n0) (hb1 : b + n ≤ n1) (hf : 1 ≤ Y.2.2.2.2.1) (hlo : ((st.map (fMv g)).map fun v => v.category).sum + 18 ≤ Y.2.2.2.2.2) (kk : fAt g Y (pc + 3) ls st (fcp M k i a k' i' b n) Q) : fAt g Y pc ls (vi zn :: vi zd :: vr k' i' :: vi zs :: vr k i :: st) M Q := by
  intro hR p e s m args below meth co H locs ar hE hP hS hl
  obtain ⟨rn, rd, ri', rs, ri, rst⟩ := hR.2.1
  have hts := hE.2.2.2.2.2.1
  have he := fws_at g M ri
  have he' := fws_at g M ri'
  rw [fcell_i q0 q1] at he
  rw [fcell_i q2 q3] at he'
  have en := r32_nat hn rn
  have ed := r32_nat hdp rd
  have es := r32_nat hs rs
  have nz : ∀ {z : Int} {j : Nat}, z = (j : Int) → R32 z → ¬ Int32.ofInt z < 0 := fun hz hr q => by have := (r32_ltz hr).mp q; omega
  refine va_copyi hE.1 hE.2.1 (hE.2.2.2.1.trans hl.1.symm) hE.2.2.2.2.1 (hts _ (List.mem_cons_of_mem _ h1)) (hts _ (List.mem_cons_of_mem _ h2)) (hts _ (List.mem_cons_of_mem _ h3)) (hts _ (List.mem_cons_of_mem _ h4)) hE.2.2.2.2.2.2.2.1 hP (fws_D hE.2.2.2.2.2.2.2.2.2 M) hS (foff k + i) (foff k' + i') 0 0 he he' rfl rfl rfl (nz hs rs) (nz hdp rd) (nz hn rn) (by rw [es, en]; exact hb0) (by rw [ed, en]; exact hb1) (fun _ _ => rfl) hf hlo hd (fun H1 locs1 hP1 hD1 hS1 => ?_)
  rw [es, ed, en] at hP1
  have e1 : (g.2.2.1 k' i', (Sum.inl (g.2.2.2 0, n1, .inl (va_cpy (fun j => Int32.ofInt (M k i j)) (fun j => Int32.ofInt (M k' i' j)) a b n)) : va_E)) = (g.2.2.1 k' i', fcell g (fcp M k i a k' i' b n k' i') k' i') := by
    rw [fcell_i q2 q3, fcp_at]
    congr 5
    funext c
    unfold va_cpy
    by_cases h : b ≤ c ∧ c < b + n
    · rw [if_pos h]; simp [h]
    · rw [if_neg h]; simp [h]
  rw [e1, fws_set g ri' (fun a b hab => fcp_off hab)] at hP1
  exact kk ⟨hR.1, rst, fRM_cp hR.2.2 q4⟩ p e s m args below meth co H1 locs1 ar hE hP1 hS1 hl
/-- System.arraycopy of longs -/
theorem st_copyl {ix k i k' i' a b n : Nat} {n0 n1 : Nat} {zs zd zn : Int} (hd : decode Y.2.1 pc = .ok (.invokestatic ix, 3)) (h1 : Cond.methodLink Y.1.cls ix arraycopyName ∈ ftb) (h2 : Cond.native arraycopyName ∈ ftb) (h3 : Cond.static arraycopyName ∈ ftb) (h4 : Cond.initialized "java/lang/System" ∈ ftb) (q0 : fobj k = none) (qi : fari k = none) (q1 : farl k = some n0) (q2 : fobj k' = none) (qi' : fari k' = none) (q3 : farl k' = some n1) (hs : zs = (a : Int)) (hdp : zd = (b : Int)) (hn : zn = (n : Int)) (hb0 : a + n ≤ n0) (hb1 : b + n ≤ n1) (hf : 1 ≤ Y.2.2.2.2.1) (hlo : ((st.map (fMv g)).map fun v => v.category).sum + 18 ≤ Y.2.2.2.2.2) (kk : fAt g Y (pc + 3) ls st (fcp M k i a k' i' b n) Q) : fAt g Y pc ls (vi zn :: vi zd :: vr k' i' :: vi zs :: vr k i :: st) M Q := by
  intro hR p e s m args below meth co H locs ar hE hP hS hl
  obtain ⟨rn, rd, ri', rs, ri, rst⟩ := hR.2.1
  have hts := hE.2.2.2.2.2.1
  have he := fws_at g M ri
  have he' := fws_at g M ri'
  rw [fcell_l q0 qi q1] at he
  rw [fcell_l q2 qi' q3] at he'
  have en := r32_nat hn rn
  have ed := r32_nat hdp rd
  have es := r32_nat hs rs
  have nz : ∀ {z : Int} {j : Nat}, z = (j : Int) → R32 z → ¬ Int32.ofInt z < 0 := fun hz hr q => by have := (r32_ltz hr).mp q; omega
  refine va_copyl hE.1 hE.2.1 (hE.2.2.2.1.trans hl.1.symm) hE.2.2.2.2.1 (hts _ (List.mem_cons_of_mem _ h1)) (hts _ (List.mem_cons_of_mem _ h2)) (hts _ (List.mem_cons_of_mem _ h3)) (hts _ (List.mem_cons_of_mem _ h4)) hE.2.2.2.2.2.2.2.1 hP (fws_D hE.2.2.2.2.2.2.2.2.2 M) hS (foff k + i) (foff k' + i') 1 1 he he' rfl rfl rfl (nz hs rs) (nz hdp rd) (nz hn rn) (by rw [es, en]; exact hb0) (by rw [ed, en]; exact hb1) (fun _ _ => rfl) hf hlo hd (fun H1 locs1 hP1 hD1 hS1 => ?_)
  rw [es, ed, en] at hP1
  have e1 : (g.2.2.1 k' i', (Sum.inl (g.2.2.2 1, n1, .inr (.inl (va_cpy (fun j => Int64.ofInt (M k i j)) (fun j => Int64.ofInt (M k' i' j)) a b n))) : va_E)) = (g.2.2.1 k' i', fcell g (fcp M k i a k' i' b n k' i') k' i') := by
    rw [fcell_l q2 qi' q3, fcp_at]
    congr 6
    funext c
    unfold va_cpy
    by_cases h : b ≤ c ∧ c < b + n
    · rw [if_pos h]; simp [h]
    · rw [if_neg h]; simp [h]
  rw [e1, fws_set g ri' (fun a b hab => fcp_off hab)] at hP1
  exact kk ⟨hR.1, rst, fRM_cp hR.2.2 (by rw [q1, q3]; rfl)⟩ p e s m args below meth co H1 locs1 ar hE hP1 hS1 hl
end FM4
