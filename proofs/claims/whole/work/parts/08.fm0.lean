/-! ===== a machine of numbers: values, a store, what the heap holds of it ===== -/
abbrev fV : Type := Int ⊕ (Int ⊕ (Nat × Nat))
abbrev vi (z : Int) : fV := Sum.inl z
abbrev vl (z : Int) : fV := Sum.inr (Sum.inl z)
abbrev vr (k i : Nat) : fV := Sum.inr (Sum.inr (k, i))
/-- the store: by kind of cell, number of cell, slot -/
abbrev fM : Type := Nat → Nat → Nat → Int
/-- what is fixed: the launch, the tables, the addresses of the cells, those of arrays -/
abbrev fG : Type := Launch × va_G × (Nat → Nat → Nat) × (Nat → ClassId)
/-- a method: name, code, locals, answer, frames, words of locals that it needs -/
abbrev fY : Type := MethodName × ByteArray × Nat × Option FieldType × Nat × Nat
abbrev R32 (z : Int) : Prop := -2147483648 ≤ z ∧ z ≤ 2147483647
abbrev R64 (z : Int) : Prop := -9223372036854775808 ≤ z ∧ z ≤ 9223372036854775807
theorem r32_ti {z : Int} (h : R32 z) : (Int32.ofInt z).toInt = z := Int32.toInt_ofInt_of_le (by have := h.1; omega) (by have := h.2; omega)
theorem r64_ti {z : Int} (h : R64 z) : (Int64.ofInt z).toInt = z := Int64.toInt_ofInt_of_le (by have := h.1; omega) (by have := h.2; omega)
theorem r32_eq {x y : Int} (hx : R32 x) (hy : R32 y) : Int32.ofInt x = Int32.ofInt y ↔ x = y := ⟨fun h => by have := congrArg Int32.toInt h; rwa [r32_ti hx, r32_ti hy] at this, fun h => by rw [h]⟩
theorem r32_lt {x y : Int} (hx : R32 x) (hy : R32 y) : Int32.ofInt x < Int32.ofInt y ↔ x < y := by rw [Int32.lt_iff_toInt_lt, r32_ti hx, r32_ti hy]
theorem r32_le {x y : Int} (hx : R32 x) (hy : R32 y) : Int32.ofInt x ≤ Int32.ofInt y ↔ x ≤ y := by rw [Int32.le_iff_toInt_le, r32_ti hx, r32_ti hy]
theorem r64_eq {x y : Int} (hx : R64 x) (hy : R64 y) : Int64.ofInt x = Int64.ofInt y ↔ x = y := ⟨fun h => by have := congrArg Int64.toInt h; rwa [r64_ti hx, r64_ti hy] at this, fun h => by rw [h]⟩
theorem r64_lt {x y : Int} (hx : R64 x) (hy : R64 y) : Int64.ofInt x < Int64.ofInt y ↔ x < y := by rw [Int64.lt_iff_toInt_lt, r64_ti hx, r64_ti hy]
theorem r32_0 : Int32.ofInt 0 = 0 := rfl
theorem r32_in (x : Int32) : R32 x.toInt := ⟨by have := Int32.le_toInt x; omega, by have := Int32.toInt_lt x; omega⟩
theorem r64_in (x : Int64) : R64 x.toInt := ⟨by have := Int64.le_toInt x; omega, by have := Int64.toInt_lt x; omega⟩
theorem r32_nat {z : Int} {j : Nat} (hz : z = (j : Int)) (h : R32 z) : (Int32.ofInt z).toNatClampNeg = j := by
  rw [← Int32.toNat_toInt, r32_ti h, hz]; rfl
/-! kinds of cells -/
def fcnt (k : Nat) : Nat := [1, 2, 21, 21, 21, 2, 1, 1, 1, 1, 11, 1, 1, 1, 1, 1, 1, 1, 1, 1, 4, 4, 1, 1, 1, 1, 1, 1, 1, 1, 1, 1, 1, 1, 1, 1, 1].getD k 0
def foff (k : Nat) : Nat := [0, 1, 3, 24, 45, 66, 68, 69, 70, 71, 72, 83, 84, 85, 86, 87, 88, 89, 90, 91, 92, 96, 100, 101, 102, 103, 104, 105, 106, 107, 108, 109, 110, 111, 112, 113, 114].getD k 115
def fids : List (Nat × Nat) := (List.range 37).flatMap (fun k => (List.range (fcnt k)).map (fun i => (k, i)))
/-- an object: which, and its slots: a number, or a cell by its kind and its number -/
def fobj (k : Nat) : Option (Nat × List (Option (Nat × (Nat → Nat)))) := match k with
  | 0 => some (6, [some (1, fun _ => 0), some (1, fun _ => 1), none, some (6, fun _ => 0), some (8, fun _ => 0), some (2, fun _ => 18), some (13, fun _ => 0), some (16, fun _ => 0), some (17, fun _ => 0), some (18, fun _ => 0), some (19, fun _ => 0)])
  | 1 => some (0, [none, none, some (2, fun i => 9 * i), none, some (5, fun i => i)])
  | 2 => some (3, [none, none, none, some (3, fun i => i), some (4, fun i => i)])
  | 6 => some (2, [none, some (2, fun _ => 19), some (7, fun _ => 0), none, none, none])
  | 8 => some (1, [some (9, fun _ => 0), some (11, fun _ => 0), some (12, fun _ => 0), none])
  | 13 => some (5, [some (14, fun _ => 0), some (15, fun _ => 0), none, none, some (2, fun _ => 20)])
  | 20 => some (4, [none, none, some (21, fun i => i)])
  | 22 => some (7, [some (23, fun _ => 0), some (24, fun _ => 0), some (25, fun _ => 0), none, some (26, fun _ => 0), none, none, some (27, fun _ => 0), some (28, fun _ => 0), none, some (29, fun _ => 0), some (30, fun _ => 0), some (31, fun _ => 0), some (32, fun _ => 0), none, some (33, fun _ => 0), some (34, fun _ => 0), some (35, fun _ => 0), some (36, fun _ => 0)])
  | _ => none
/-- an array of ints: its length -/
def fari (k : Nat) : Option Nat := match k with
  | 3 => some 11
  | 4 => some 6
  | 7 => some 70
  | 10 => some 12
  | 11 => some 11
  | 12 => some 97
  | 15 => some 11
  | 16 => some 32
  | 17 => some 6
  | 18 => some 6
  | 23 => some 21
  | 24 => some 156
  | 25 => some 12
  | 26 => some 70
  | 27 => some 17
  | 28 => some 168
  | 29 => some 12
  | 30 => some 32
  | 31 => some 21
  | 32 => some 168
  | 33 => some 4
  | 34 => some 4
  | _ => none
/-- an array of longs: its length -/
def farl (k : Nat) : Option Nat := match k with
  | 14 => some 12
  | 21 => some 24
  | 35 => some 96
  | 36 => some 24
  | _ => none
/-- an array of cells: which, its length, its cells -/
def fara (k : Nat) : Option (Nat × Nat × Nat × (Nat → Nat → Nat)) := match k with
  | 5 => some (2, 8, 2, fun i j => 9 * i + 1 + j)
  | 9 => some (4, 11, 10, fun _ j => j)
  | 19 => some (3, 4, 20, fun _ j => j)
  | _ => none
def fMv (g : fG) : fV → Value
  | .inl z => .int (Int32.ofInt z)
  | .inr (.inl z) => .long (Int64.ofInt z)
  | .inr (.inr q) => .ref (g.2.2.1 q.1 q.2)
def fsl (g : fG) (m : Nat → Int) (i : Nat) : Nat → List (Option (Nat × (Nat → Nat))) → List Value
  | _, [] => []
  | j, none :: t => .int (Int32.ofInt (m j)) :: fsl g m i (j + 1) t
  | j, some q :: t => .ref (g.2.2.1 q.1 (q.2 i)) :: fsl g m i (j + 1) t
def fcell (g : fG) (m : Nat → Int) (k i : Nat) : va_E := match fobj k with
  | some q => .inr (q.1, fsl g m i 0 q.2)
  | none => match fari k with
    | some n => .inl (g.2.2.2 0, n, .inl (fun j => Int32.ofInt (m j)))
    | none => match farl k with
      | some n => .inl (g.2.2.2 1, n, .inr (.inl (fun j => Int64.ofInt (m j))))
      | none => match fara k with
        | some q => .inl (g.2.2.2 q.1, q.2.1, .inr (.inr (.inr (.inr (fun j => some (g.2.2.1 q.2.2.1 (q.2.2.2 i j)))))))
        | none => .inr (0, [])
def fws (g : fG) (M : fM) : va_W := fids.map (fun q => (g.2.2.1 q.1 q.2, fcell g (M q.1 q.2) q.1 q.2))
def fA (g : fG) : Nat → Prop := fun q => ∃ k i, i < fcnt k ∧ q = g.2.2.1 k i
def fInj (g : fG) : Prop := ∀ k i k' i', i < fcnt k → i' < fcnt k' → g.2.2.1 k i = g.2.2.1 k' i' → k = k' ∧ i = i'
abbrev fcls : List vw_C := [(RX0, TX0, 5), (RX1, TX1, 4), (RX2, TX2, 6), (RX3, TX3, 5), (RX4, TX4, 3), (RX5, TX5, 5), (RX6, TX6, 11), (RX7, TX7, 19)]
abbrev fty (g : fG) : List (ClassId × FieldType) := [(g.2.2.2 0, .int), (g.2.2.2 1, .long), (g.2.2.2 2, .object "LeanDiagonals$Setting"), (g.2.2.2 3, .object "LeanDiagonals$Sheet"), (g.2.2.2 4, .array .int)]
theorem fcnt_big {k i : Nat} (h : i < fcnt k) : k < 37 := by
  rcases Nat.lt_or_ge k 37 with q | q
  · exact q
  · exfalso
    unfold fcnt at h
    rw [List.getD_eq_getElem?_getD, List.getElem?_eq_none (by simpa using q)] at h
    exact absurd h (Nat.not_lt_zero _)
theorem fpos0 : ∀ k, k < 37 → ∀ i, i < fcnt k → fids[foff k + i]? = some (k, i) := by decide +kernel
theorem fpos {k i : Nat} (h : i < fcnt k) : fids[foff k + i]? = some (k, i) := fpos0 k (fcnt_big h) i h
theorem finv0 : (List.range 115).all (fun n => match fids[n]? with | some q => decide (n = foff q.1 + q.2 ∧ q.2 < fcnt q.1) | none => true) = true := by decide +kernel
theorem flen : fids.length = 115 := by decide +kernel
theorem finv {n : Nat} {q : Nat × Nat} (h : fids[n]? = some q) : n = foff q.1 + q.2 ∧ q.2 < fcnt q.1 := by
  have hn : n < 115 := by rw [← flen]; exact (List.getElem?_eq_some_iff.mp h).1
  have h1 := List.all_eq_true.mp finv0 n (List.mem_range.mpr hn)
  rw [h] at h1
  exact of_decide_eq_true h1
theorem fws_at (g : fG) (M : fM) {k i : Nat} (h : i < fcnt k) : (fws g M)[foff k + i]? = some (g.2.2.1 k i, fcell g (M k i) k i) := by
  unfold fws
  rw [List.getElem?_map, fpos h]
  rfl
theorem fws_set (g : fG) {M M' : fM} {k i : Nat} (h : i < fcnt k) (ho : ∀ a b, (a ≠ k ∨ b ≠ i) → M' a b = M a b) : (fws g M).set (foff k + i) (g.2.2.1 k i, fcell g (M' k i) k i) = fws g M' := by
  apply List.ext_getElem?
  intro n
  have hl : foff k + i < (fws g M).length := (List.getElem?_eq_some_iff.mp (fws_at g M h)).1
  by_cases e : foff k + i = n
  · subst e
    rw [List.getElem?_set_self hl, fws_at g M' h]
  · rw [List.getElem?_set_ne e]
    unfold fws
    rw [List.getElem?_map, List.getElem?_map]
    cases hq : fids[n]? with
    | none => rfl
    | some q =>
      have hne : q.1 ≠ k ∨ q.2 ≠ i := by
        by_cases e1 : q.1 = k
        · by_cases e2 : q.2 = i
          · exfalso
            have := (finv hq).1
            rw [e1, e2] at this
            exact e this.symm
          · exact Or.inr e2
        · exact Or.inl e1
      show some (_, fcell g (M q.1 q.2) q.1 q.2) = some (_, fcell g (M' q.1 q.2) q.1 q.2)
      rw [ho _ _ hne]
theorem fws_D {g : fG} (hg : fInj g) (M : fM) : va_D (fA g) (fws g M) := by
  have key : ∀ (n : Nat) (x : Nat × va_E), (fws g M)[n]? = some x → ∃ q, fids[n]? = some q ∧ x.1 = g.2.2.1 q.1 q.2 := by
    intro n x hx
    unfold fws at hx
    rw [List.getElem?_map] at hx
    cases hq : fids[n]? with
    | none => rw [hq] at hx; cases hx
    | some q => rw [hq] at hx; cases hx; exact ⟨q, rfl, rfl⟩
  refine ⟨fun i j x y hi hj hxy => ?_, fun n x hx => ?_⟩
  · obtain ⟨q, h1, h2⟩ := key i x hi
    obtain ⟨r, h3, h4⟩ := key j y hj
    obtain ⟨e1, e2⟩ := hg q.1 q.2 r.1 r.2 (finv h1).2 (finv h3).2 (by rw [← h2, ← h4]; exact hxy)
    rw [(finv h1).1, (finv h3).1, e1, e2]
  · obtain ⟨q, h1, h2⟩ := key n x hx
    exact ⟨q.1, q.2, (finv h1).2, h2⟩
theorem fsl_len (g : fG) (m : Nat → Int) (i : Nat) : ∀ (sl : List (Option (Nat × (Nat → Nat)))) (n : Nat), (fsl g m i n sl).length = sl.length
  | [], _ => rfl
  | none :: t, n => by show (fsl g m i (n + 1) t).length + 1 = _; rw [fsl_len g m i t]; rfl
  | some q :: t, n => by show (fsl g m i (n + 1) t).length + 1 = _; rw [fsl_len g m i t]; rfl
theorem fsl_int (g : fG) (m : Nat → Int) (i : Nat) : ∀ (sl : List (Option (Nat × (Nat → Nat)))) (n j : Nat), sl[j]? = some none → (fsl g m i n sl)[j]? = some (.int (Int32.ofInt (m (n + j))))
  | [], _, _, h => by simp at h
  | none :: t, n, 0, _ => rfl
  | some q :: t, n, 0, h => by cases h
  | none :: t, n, j + 1, h => by show (fsl g m i (n + 1) t)[j]? = _; rw [fsl_int g m i t (n + 1) j h, Nat.add_assoc, Nat.add_comm 1 j]
  | some q :: t, n, j + 1, h => by show (fsl g m i (n + 1) t)[j]? = _; rw [fsl_int g m i t (n + 1) j h, Nat.add_assoc, Nat.add_comm 1 j]
theorem fsl_ref (g : fG) (m : Nat → Int) (i : Nat) {q : Nat × (Nat → Nat)} : ∀ (sl : List (Option (Nat × (Nat → Nat)))) (n j : Nat), sl[j]? = some (some q) → (fsl g m i n sl)[j]? = some (.ref (g.2.2.1 q.1 (q.2 i)))
  | [], _, _, h => by simp at h
  | none :: t, n, 0, h => by cases h
  | some r :: t, n, 0, h => by cases h; rfl
  | none :: t, n, j + 1, h => by show (fsl g m i (n + 1) t)[j]? = _; rw [fsl_ref g m i t (n + 1) j h]
  | some r :: t, n, j + 1, h => by show (fsl g m i (n + 1) t)[j]? = _; rw [fsl_ref g m i t (n + 1) j h]
theorem fsl_congr (g : fG) {m m' : Nat → Int} (i : Nat) : ∀ (sl : List (Option (Nat × (Nat → Nat)))) (n : Nat), (∀ j, n ≤ j → m j = m' j) → fsl g m i n sl = fsl g m' i n sl
  | [], _, _ => rfl
  | none :: t, n, h => by show _ :: _ = _ :: _; rw [h n (Nat.le_refl n), fsl_congr g i t (n + 1) (fun j hj => h j (by omega))]
  | some r :: t, n, h => by show _ :: _ = _ :: _; rw [fsl_congr g i t (n + 1) (fun j hj => h j (by omega))]
theorem fsl_set (g : fG) (m : Nat → Int) (i : Nat) (v : Int) : ∀ (sl : List (Option (Nat × (Nat → Nat)))) (n j : Nat), sl[j]? = some none → (fsl g m i n sl).set j (.int (Int32.ofInt v)) = fsl g (fun q => if q = n + j then v else m q) i n sl
  | [], _, _, h => by simp at h
  | none :: t, n, 0, _ => by
    show _ :: _ = Value.int (Int32.ofInt (if n = n + 0 then v else m n)) :: _
    rw [if_pos (Nat.add_zero n).symm, fsl_congr g (m' := fun q => if q = n + 0 then v else m q) i t (n + 1) (fun j hj => by rw [if_neg (by omega)])]
  | some q :: t, n, 0, h => by cases h
  | none :: t, n, j + 1, h => by
    show _ :: (fsl g m i (n + 1) t).set j _ = Value.int (Int32.ofInt (if n = n + (j + 1) then v else m n)) :: _
    rw [if_neg (by omega), fsl_set g m i v t (n + 1) j h, show n + 1 + j = n + (j + 1) by omega]
  | some q :: t, n, j + 1, h => by
    show _ :: (fsl g m i (n + 1) t).set j _ = _ :: _
    rw [fsl_set g m i v t (n + 1) j h, show n + 1 + j = n + (j + 1) by omega]
/-! the store changes at a place; a run of places is copied -/
def fup (M : fM) (k i j : Nat) (v : Int) : fM := fun a b c => if a = k ∧ b = i ∧ c = j then v else M a b c
def fcp (M : fM) (k i sp k' i' dp n : Nat) : fM := fun a b c => if a = k' ∧ b = i' ∧ dp ≤ c ∧ c < dp + n then M k i (sp + (c - dp)) else M a b c
theorem fup_off {M : fM} {k i j : Nat} {v : Int} {a b : Nat} (h : a ≠ k ∨ b ≠ i) : fup M k i j v a b = M a b := by
  funext c
  unfold fup
  rw [if_neg (by rintro ⟨h1, h2, -⟩; rcases h with q | q; exact q h1; exact q h2)]
theorem fup_at (M : fM) (k i j : Nat) (v : Int) : fup M k i j v k i = fun q => if q = j then v else M k i q := by
  funext c
  unfold fup
  simp
theorem fcp_off {M : fM} {k i sp k' i' dp n a b : Nat} (h : a ≠ k' ∨ b ≠ i') : fcp M k i sp k' i' dp n a b = M a b := by
  funext c
  unfold fcp
  rw [if_neg (by rintro ⟨h1, h2, -⟩; rcases h with q | q; exact q h1; exact q h2)]
theorem fcp_at (M : fM) (k i sp k' i' dp n : Nat) : fcp M k i sp k' i' dp n k' i' = fun c => if dp ≤ c ∧ c < dp + n then M k i (sp + (c - dp)) else M k' i' c := by
  funext c
  unfold fcp
  simp
/-! ranges -/
def fR : fV → Prop
  | .inl z => R32 z
  | .inr (.inl z) => R64 z
  | .inr (.inr q) => q.2 < fcnt q.1
def fRs : List fV → Prop
  | [] => True
  | v :: t => fR v ∧ fRs t
def fRl : List (Option fV) → Prop
  | [] => True
  | none :: t => fRl t
  | some v :: t => fR v ∧ fRl t
def fRM (M : fM) : Prop := ∀ a b c, if (farl a).isSome then R64 (M a b c) else R32 (M a b c)
def fRV (ls : List (Option fV)) (st : List fV) (M : fM) : Prop := fRl ls ∧ fRs st ∧ fRM M
theorem fRl_get : ∀ {ls : List (Option fV)} {k : Nat} {v : fV}, fRl ls → ls[k]? = some (some v) → fR v
  | [], _, _, _, h => by simp at h
  | none :: t, 0, _, _, h => by cases h
  | some w :: t, 0, _, hl, h => by cases h; exact hl.1
  | none :: t, k + 1, v, hl, h => fRl_get (ls := t) (k := k) hl h
  | some w :: t, k + 1, v, hl, h => fRl_get (ls := t) (k := k) hl.2 h
theorem fRl_set : ∀ {ls : List (Option fV)} {k : Nat} {v : fV}, fRl ls → fR v → fRl (ls.set k (some v))
  | [], _, _, _, _ => trivial
  | none :: t, 0, _, hl, h => ⟨h, hl⟩
  | some w :: t, 0, _, hl, h => ⟨h, hl.2⟩
  | none :: t, k + 1, v, hl, h => fRl_set (ls := t) (k := k) hl h
  | some w :: t, k + 1, v, hl, h => ⟨hl.1, fRl_set (ls := t) (k := k) hl.2 h⟩
theorem fRl_del : ∀ {ls : List (Option fV)} {k : Nat}, fRl ls → fRl (ls.set k none)
  | [], _, _ => trivial
  | none :: t, 0, hl => hl
  | some w :: t, 0, hl => hl.2
  | none :: t, k + 1, hl => fRl_del (ls := t) (k := k) hl
  | some w :: t, k + 1, hl => ⟨hl.1, fRl_del (ls := t) (k := k) hl.2⟩
theorem fRM_up {M : fM} {k i j : Nat} {v : Int} (h : fRM M) (hv : if (farl k).isSome then R64 v else R32 v) : fRM (fup M k i j v) := by
  intro a b c
  unfold fup
  by_cases e : a = k ∧ b = i ∧ c = j
  · rw [if_pos e, e.1]; exact hv
  · rw [if_neg e]; exact h a b c
theorem fRM_cp {M : fM} {k i sp k' i' dp n : Nat} (h : fRM M) (hk : (farl k).isSome = (farl k').isSome) : fRM (fcp M k i sp k' i' dp n) := by
  intro a b c
  unfold fcp
  by_cases e : a = k' ∧ b = i' ∧ dp ≤ c ∧ c < dp + n
  · rw [if_pos e, e.1, ← hk]; exact h k i _
  · rw [if_neg e]; exact h a b c
/-! locals -/
def fas (g : fG) : Nat → List (Option fV) → List (Nat × Value)
  | _, [] => []
  | n, none :: t => fas g (n + 1) t
  | n, some v :: t => (n, fMv g v) :: fas g (n + 1) t
theorem fas_mem (g : fG) : ∀ (ls : List (Option fV)) (n : Nat) (q : Nat × Value), q ∈ fas g n ls ↔ ∃ (j : Nat) (w : fV), ls[j]? = some (some w) ∧ q = (n + j, fMv g w)
  | [], n, q => ⟨fun h => (by cases h), fun ⟨j, w, h, _⟩ => (by simp at h)⟩
  | none :: t, n, q => by
    show q ∈ fas g (n + 1) t ↔ _
    rw [fas_mem g t (n + 1) q]
    constructor
    · rintro ⟨j, w, h1, h2⟩; exact ⟨j + 1, w, h1, by rw [h2]; congr 1; omega⟩
    · rintro ⟨j, w, h1, h2⟩
      cases j with
      | zero => cases h1
      | succ j => exact ⟨j, w, h1, by rw [h2]; congr 1; omega⟩
  | some v :: t, n, q => by
    show q ∈ (n, fMv g v) :: fas g (n + 1) t ↔ _
    rw [List.mem_cons, fas_mem g t (n + 1) q]
    constructor
    · rintro (h | ⟨j, w, h1, h2⟩)
      · exact ⟨0, v, rfl, h⟩
      · exact ⟨j + 1, w, h1, by rw [h2]; congr 1; omega⟩
    · rintro ⟨j, w, h1, h2⟩
      cases j with
      | zero => cases h1; exact Or.inl h2
      | succ j => exact Or.inr ⟨j, w, h1, by rw [h2]; congr 1; omega⟩
theorem fas_get {g : fG} {ar : Array Slot} {n : Nat} {ls : List (Option fV)} {k : Nat} {v : fV} (h : lv_has ar n (fas g 0 ls)) (hv : ls[k]? = some (some v)) : ar[k]? = some (.val (fMv g v)) := by
  have := h.2.2 (k, fMv g v) ((fas_mem g ls 0 _).mpr ⟨k, v, hv, by simp⟩)
  exact this
/-- no long stands just ahead of a place -/
def fnl (ls : List (Option fV)) : Nat → Bool
  | 0 => true
  | k + 1 => match ls[k]? with
    | some (some (.inr (.inl _))) => false
    | _ => true
theorem fnl_cat {g : fG} {ls : List (Option fV)} {k j : Nat} {w : fV} (h : fnl ls k = true) (hj : ls[j]? = some (some w)) (e : j + 1 = k) : (fMv g w).category = 1 := by
  subst e
  have h : (match ls[j]? with | some (some (.inr (.inl _))) => false | _ => true) = true := h
  rw [hj] at h
  match w, h with
  | .inl _, _ => rfl
  | .inr (.inr _), _ => rfl
theorem fas_st1 {g : fG} {ar : Array Slot} {n : Nat} {ls : List (Option fV)} {k : Nat} {v : fV} (hk : fnl ls k = true) (h : lv_has ar n ((k, fMv g v) :: (fas g 0 ls).filter (fun q => !(q.1 == k) && !(q.1 + 1 == k && q.2.category == 2)))) : lv_has ar n (fas g 0 (ls.set k (some v))) := by
  refine ⟨h.1, h.2.1, fun q hq => ?_⟩
  obtain ⟨j, w, h1, h2⟩ := (fas_mem g _ 0 q).mp hq
  rw [Nat.zero_add] at h2
  apply h.2.2 q
  by_cases e : j = k
  · subst e
    rw [List.getElem?_set_self (by have := (List.getElem?_eq_some_iff.mp h1).1; simpa using this)] at h1
    cases h1
    rw [h2]; exact List.mem_cons_self
  · rw [List.getElem?_set_ne (Ne.symm e)] at h1
    refine List.mem_cons_of_mem _ (List.mem_filter.mpr ⟨(fas_mem g ls 0 q).mpr ⟨j, w, h1, by rw [h2, Nat.zero_add]⟩, ?_⟩)
    rw [h2]
    by_cases e2 : j + 1 = k
    · have := fnl_cat (g := g) hk h1 e2
      simp [e, this]
    · simp [e, e2]
theorem fas_st2 {g : fG} {ar : Array Slot} {n : Nat} {ls : List (Option fV)} {k : Nat} {v : fV} (hk : fnl ls k = true) (h : lv_has ar n ((k, fMv g v) :: (fas g 0 ls).filter (fun q => !(q.1 == k) && (!(q.1 == k + 1) && !(q.1 + 1 == k && q.2.category == 2))))) : lv_has ar n (fas g 0 ((ls.set k (some v)).set (k + 1) none)) := by
  refine ⟨h.1, h.2.1, fun q hq => ?_⟩
  obtain ⟨j, w, h1, h2⟩ := (fas_mem g _ 0 q).mp hq
  rw [Nat.zero_add] at h2
  apply h.2.2 q
  by_cases e0 : j = k + 1
  · subst e0
    rw [List.getElem?_set_self (by have := (List.getElem?_eq_some_iff.mp h1).1; simpa using this)] at h1
    cases h1
  rw [List.getElem?_set_ne (Ne.symm e0)] at h1
  by_cases e : j = k
  · subst e
    rw [List.getElem?_set_self (by have := (List.getElem?_eq_some_iff.mp h1).1; simpa using this)] at h1
    cases h1
    rw [h2]; exact List.mem_cons_self
  · rw [List.getElem?_set_ne (Ne.symm e)] at h1
    refine List.mem_cons_of_mem _ (List.mem_filter.mpr ⟨(fas_mem g ls 0 q).mpr ⟨j, w, h1, by rw [h2, Nat.zero_add]⟩, ?_⟩)
    rw [h2]
    by_cases e2 : j + 1 = k
    · have := fnl_cat (g := g) hk h1 e2
      simp [e, e0, this]
    · simp [e, e0, e2]
/-! the good words of the tables -/
def ftb : List Cond := lw_tbl.filter goodWord
theorem ftb_in (n : Nat) {w : Cond} (h : lw_tbl[n]? = some w) (hg : goodWord w = true) : w ∈ ftb := List.mem_filter.mpr ⟨List.mem_of_getElem? h, hg⟩
theorem ftb_good {w : Cond} (h : w ∈ ftb) : goodWord w = true := (List.mem_filter.mp h).2
theorem ftb_tbl {w : Cond} (h : w ∈ ftb) : w ∈ lw_tbl := (List.mem_filter.mp h).1
