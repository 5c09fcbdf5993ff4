/-! ===== the rows that are not plain; all cells; what holds of the first store ===== -/
set_option maxHeartbeats 4000000 in
set_option maxRecDepth 100000 in
theorem w0_5 {l : Launch} {D : va_G} {b : Nat} {ca : Nat → ClassId} {H : Heap} (hP : va_P D fcls (kW b 115 (csF (gF l D b ca) b)) H) : ∀ i, i < fcnt 5 → va_at D fcls (b + adr 5 i, fcell (gF l D b ca) (M0 5 i) 5 i) H := by
  intro i hi
  have hi : i < 2 := hi
  rcases (show i = 0 ∨ i = 1 by omega) with rfl | rfl
  · have h2 : H[b + 5]? = some (arrV (ca 2) 8 (fun j => va_rf ((va_up (va_up (va_up (va_up (va_up (va_up (va_up (va_up (fun _ => none) 0 (some (b + 6))) 1 (some (b + 9))) 2 (some (b + 12))) 3 (some (b + 15))) 4 (some (b + 18))) 5 (some (b + 21))) 6 (some (b + 24))) 7 (some (b + 27))) j))) := hP 5 _ (kW_at (by decide))
    show H[b + 5]? = some (arrV (ca 2) 8 (fun j => va_rf (some (b + adr 2 (9 * 0 + 1 + j)))))
    rw [h2]
    refine congrArg some (ko_arr (fun j hj => ?_))
    rcases (show j = 0 ∨ j = 1 ∨ j = 2 ∨ j = 3 ∨ j = 4 ∨ j = 5 ∨ j = 6 ∨ j = 7 by omega) with rfl | rfl | rfl | rfl | rfl | rfl | rfl | rfl <;> rfl
  · have h2 : H[b + 34]? = some (arrV (ca 2) 8 (fun j => va_rf ((va_up (va_up (va_up (va_up (va_up (va_up (va_up (va_up (fun _ => none) 0 (some (b + 35))) 1 (some (b + 38))) 2 (some (b + 41))) 3 (some (b + 44))) 4 (some (b + 47))) 5 (some (b + 50))) 6 (some (b + 53))) 7 (some (b + 56))) j))) := hP 34 _ (kW_at (by decide))
    show H[b + 34]? = some (arrV (ca 2) 8 (fun j => va_rf (some (b + adr 2 (9 * 1 + 1 + j)))))
    rw [h2]
    refine congrArg some (ko_arr (fun j hj => ?_))
    rcases (show j = 0 ∨ j = 1 ∨ j = 2 ∨ j = 3 ∨ j = 4 ∨ j = 5 ∨ j = 6 ∨ j = 7 by omega) with rfl | rfl | rfl | rfl | rfl | rfl | rfl | rfl <;> rfl
set_option maxHeartbeats 4000000 in
set_option maxRecDepth 100000 in
theorem w0_19 {l : Launch} {D : va_G} {b : Nat} {ca : Nat → ClassId} {H : Heap} (hP : va_P D fcls (kW b 115 (csF (gF l D b ca) b)) H) : ∀ i, i < fcnt 19 → va_at D fcls (b + adr 19 i, fcell (gF l D b ca) (M0 19 i) 19 i) H := by
  intro i hi
  have hi : i < 1 := hi
  rcases (show i = 0 by omega) with rfl
  · have h2 : H[b + 91]? = some (arrV (ca 3) 4 (fun j => va_rf ((va_up (va_up (va_up (va_up (fun _ => none) 0 (some (b + 92))) 1 (some (b + 94))) 2 (some (b + 96))) 3 (some (b + 98))) j))) := hP 91 _ (kW_at (by decide))
    show H[b + 91]? = some (arrV (ca 3) 4 (fun j => va_rf (some (b + adr 20 j))))
    rw [h2]
    refine congrArg some (ko_arr (fun j hj => ?_))
    rcases (show j = 0 ∨ j = 1 ∨ j = 2 ∨ j = 3 by omega) with rfl | rfl | rfl | rfl <;> rfl
set_option maxHeartbeats 4000000 in
set_option maxRecDepth 100000 in
theorem w0_9 {l : Launch} {D : va_G} {b : Nat} {ca : Nat → ClassId} {H : Heap} (hP : va_P D fcls (kW b 115 (csF (gF l D b ca) b)) H) : ∀ i, i < fcnt 9 → va_at D fcls (b + adr 9 i, fcell (gF l D b ca) (M0 9 i) 9 i) H := by
  intro i hi
  have e : i = 0 := by have : i < 1 := hi; omega
  subst e
  exact hP 65 _ (kW_at (by decide))
set_option maxHeartbeats 4000000 in
set_option maxRecDepth 100000 in
theorem w0_12 {l : Launch} {D : va_G} {b : Nat} {ca : Nat → ClassId} {H : Heap} (hP : va_P D fcls (kW b 115 (csF (gF l D b ca) b)) H) : ∀ i, i < fcnt 12 → va_at D fcls (b + adr 12 i, fcell (gF l D b ca) (M0 12 i) 12 i) H := by
  intro i hi
  have e : i = 0 := by have : i < 1 := hi; omega
  subst e
  have ef : (fun j => Int32.ofInt (M0 12 0 j)) = upd (fun _ => 0) 1 1 := by
    funext j
    show Int32.ofInt (if j = 1 then 1 else 0) = if j = 1 then 1 else 0
    by_cases h : j = 1
    · rw [if_pos h, if_pos h]; rfl
    · rw [if_neg h, if_neg h]; rfl
  show va_at D fcls (b + 78, .inl (ca 0, 97, .inl (fun j => Int32.ofInt (M0 12 0 j)))) H
  rw [ef]
  exact hP 78 _ (kW_at (by decide))
set_option maxHeartbeats 4000000 in
set_option maxRecDepth 100000 in
theorem w0_23 {l : Launch} {D : va_G} {b : Nat} {ca : Nat → ClassId} {H : Heap} (hP : va_P D fcls (kW b 115 (csF (gF l D b ca) b)) H) : ∀ i, i < fcnt 23 → va_at D fcls (b + adr 23 i, fcell (gF l D b ca) (M0 23 i) 23 i) H := by
  intro i hi
  have e : i = 0 := by have : i < 1 := hi; omega
  subst e
  have ef : (fun j => Int32.ofInt (M0 23 0 j)) = upd (upd (upd (fun _ => 0) 0 1) 2 7) 3 1 := by
    funext j
    show Int32.ofInt (if j = 0 then 1 else if j = 2 then 7 else if j = 3 then 1 else 0) = if j = 3 then 1 else if j = 2 then 7 else if j = 0 then 1 else 0
    by_cases h0 : j = 0
    · subst h0; rfl
    · by_cases h2 : j = 2
      · subst h2; rfl
      · by_cases h3 : j = 3
        · subst h3; rfl
        · rw [if_neg h0, if_neg h2, if_neg h3, if_neg h3, if_neg h2, if_neg h0]; rfl
  show va_at D fcls (b + 101, .inl (ca 0, 21, .inl (fun j => Int32.ofInt (M0 23 0 j)))) H
  rw [ef]
  exact hP 101 _ (kW_at (by decide))
set_option maxHeartbeats 4000000 in
set_option maxRecDepth 100000 in
theorem w0_33 {l : Launch} {D : va_G} {b : Nat} {ca : Nat → ClassId} {H : Heap} (hP : va_P D fcls (kW b 115 (csF (gF l D b ca) b)) H) : ∀ i, i < fcnt 33 → va_at D fcls (b + adr 33 i, fcell (gF l D b ca) (M0 33 i) 33 i) H := by
  intro i hi
  have e : i = 0 := by have : i < 1 := hi; omega
  subst e
  have ef : (fun j => Int32.ofInt (M0 33 0 j)) = upd (upd (upd (upd (fun _ => 0) 0 (-1)) 1 (-1)) 2 (-1)) 3 (-1) := by
    funext j
    show Int32.ofInt (if j < 4 then -1 else 0) = if j = 3 then -1 else if j = 2 then -1 else if j = 1 then -1 else if j = 0 then -1 else 0
    by_cases h : j < 4
    · rw [if_pos h]
      rcases (show j = 0 ∨ j = 1 ∨ j = 2 ∨ j = 3 by omega) with rfl | rfl | rfl | rfl <;> rfl
    · rw [if_neg h, if_neg (by omega), if_neg (by omega), if_neg (by omega), if_neg (by omega)]; rfl
  show va_at D fcls (b + 111, .inl (ca 0, 4, .inl (fun j => Int32.ofInt (M0 33 0 j)))) H
  rw [ef]
  exact hP 111 _ (kW_at (by decide))
theorem w0_all {l : Launch} {D : va_G} {b : Nat} {ca : Nat → ClassId} {H : Heap} (hP : va_P D fcls (kW b 115 (csF (gF l D b ca) b)) H) (k i : Nat) (hi : i < fcnt k) : va_at D fcls (b + adr k i, fcell (gF l D b ca) (M0 k i) k i) H := by
  have hk := fcnt_big hi
  rcases (show k = 0 ∨ k = 1 ∨ k = 2 ∨ k = 3 ∨ k = 4 ∨ k = 5 ∨ k = 6 ∨ k = 7 ∨ k = 8 ∨ k = 9 ∨ k = 10 ∨ k = 11 ∨ k = 12 ∨ k = 13 ∨ k = 14 ∨ k = 15 ∨ k = 16 ∨ k = 17 ∨ k = 18 ∨ k = 19 ∨ k = 20 ∨ k = 21 ∨ k = 22 ∨ k = 23 ∨ k = 24 ∨ k = 25 ∨ k = 26 ∨ k = 27 ∨ k = 28 ∨ k = 29 ∨ k = 30 ∨ k = 31 ∨ k = 32 ∨ k = 33 ∨ k = 34 ∨ k = 35 ∨ k = 36 by omega) with rfl | rfl | rfl | rfl | rfl | rfl | rfl | rfl | rfl | rfl | rfl | rfl | rfl | rfl | rfl | rfl | rfl | rfl | rfl | rfl | rfl | rfl | rfl | rfl | rfl | rfl | rfl | rfl | rfl | rfl | rfl | rfl | rfl | rfl | rfl | rfl | rfl
  · exact w0_0 hP i hi
  · exact w0_1 hP i hi
  · exact w0_2 hP i hi
  · exact w0_3 hP i hi
  · exact w0_4 hP i hi
  · exact w0_5 hP i hi
  · exact w0_6 hP i hi
  · exact w0_7 hP i hi
  · exact w0_8 hP i hi
  · exact w0_9 hP i hi
  · exact w0_10 hP i hi
  · exact w0_11 hP i hi
  · exact w0_12 hP i hi
  · exact w0_13 hP i hi
  · exact w0_14 hP i hi
  · exact w0_15 hP i hi
  · exact w0_16 hP i hi
  · exact w0_17 hP i hi
  · exact w0_18 hP i hi
  · exact w0_19 hP i hi
  · exact w0_20 hP i hi
  · exact w0_21 hP i hi
  · exact w0_22 hP i hi
  · exact w0_23 hP i hi
  · exact w0_24 hP i hi
  · exact w0_25 hP i hi
  · exact w0_26 hP i hi
  · exact w0_27 hP i hi
  · exact w0_28 hP i hi
  · exact w0_29 hP i hi
  · exact w0_30 hP i hi
  · exact w0_31 hP i hi
  · exact w0_32 hP i hi
  · exact w0_33 hP i hi
  · exact w0_34 hP i hi
  · exact w0_35 hP i hi
  · exact w0_36 hP i hi
theorem fws_0 {l : Launch} {D : va_G} {b : Nat} {ca : Nat → ClassId} {H : Heap} (hP : va_P D fcls (kW b 115 (csF (gF l D b ca) b)) H) : va_P D fcls (fws (gF l D b ca) M0) H := by
  intro n q hq
  unfold fws at hq
  rw [List.getElem?_map] at hq
  cases hk : fids[n]? with
  | none => rw [hk] at hq; cases hq
  | some r =>
    rw [hk] at hq
    cases hq
    exact w0_all hP r.1 r.2 (finv hk).2
def adi (n : Nat) : Nat × Nat := [(0, 0), (1, 0), (2, 0), (3, 0), (4, 0), (5, 0), (2, 1), (3, 1), (4, 1), (2, 2), (3, 2), (4, 2), (2, 3), (3, 3), (4, 3), (2, 4), (3, 4), (4, 4), (2, 5), (3, 5), (4, 5), (2, 6), (3, 6), (4, 6), (2, 7), (3, 7), (4, 7), (2, 8), (3, 8), (4, 8), (1, 1), (2, 9), (3, 9), (4, 9), (5, 1), (2, 10), (3, 10), (4, 10), (2, 11), (3, 11), (4, 11), (2, 12), (3, 12), (4, 12), (2, 13), (3, 13), (4, 13), (2, 14), (3, 14), (4, 14), (2, 15), (3, 15), (4, 15), (2, 16), (3, 16), (4, 16), (2, 17), (3, 17), (4, 17), (6, 0), (2, 19), (3, 19), (4, 19), (7, 0), (8, 0), (9, 0), (10, 0), (10, 1), (10, 2), (10, 3), (10, 4), (10, 5), (10, 6), (10, 7), (10, 8), (10, 9), (10, 10), (11, 0), (12, 0), (2, 18), (3, 18), (4, 18), (13, 0), (14, 0), (15, 0), (2, 20), (3, 20), (4, 20), (16, 0), (17, 0), (18, 0), (19, 0), (20, 0), (21, 0), (20, 1), (21, 1), (20, 2), (21, 2), (20, 3), (21, 3), (22, 0), (23, 0), (24, 0), (25, 0), (26, 0), (27, 0), (28, 0), (29, 0), (30, 0), (31, 0), (32, 0), (33, 0), (34, 0), (35, 0), (36, 0)].getD n (0, 0)
theorem adi_adr : ∀ k, k < 37 → ∀ i, i < fcnt k → adi (adr k i) = (k, i) := by decide +kernel
theorem gF_inj {l : Launch} {D : va_G} {b : Nat} {ca : Nat → ClassId} : fInj (gF l D b ca) := fun k i k' i' h1 h2 h => by
  have e : adr k i = adr k' i' := Nat.add_left_cancel (show b + adr k i = b + adr k' i' from h)
  have e2 := adi_adr k (fcnt_big h1) i h1
  rw [e, adi_adr k' (fcnt_big h2) i' h2] at e2
  cases e2
  exact ⟨rfl, rfl⟩
theorem M0_in (a b c : Nat) : -1 ≤ M0 a b c ∧ M0 a b c ≤ 7 := by
  unfold M0
  split <;> dsimp only <;> (repeat' split) <;> omega
theorem fRM_0 : fRM M0 := fun a b c => by
  have h := M0_in a b c
  split
  · exact ⟨by omega, by omega⟩
  · exact ⟨by omega, by omega⟩
theorem pOk_7 : pOk 7 := ⟨by decide, fun a h1 h2 => by
  rcases (show a = 2 ∨ a = 3 ∨ a = 4 ∨ a = 5 ∨ a = 6 by omega) with rfl | rfl | rfl | rfl | rfl <;> decide⟩
theorem M0_nn (q : Nat) : 0 ≤ M0 23 0 q := by
  show 0 ≤ (if q = 0 then (1 : Int) else if q = 2 then 7 else if q = 3 then 1 else 0)
  (repeat' split) <;> omega
theorem Rel_0 : Rel M0 := by
  have s0 : sOk M0 0 1 7 := ⟨rfl, by decide, by decide, fun q _ => ⟨Int.le_refl 0, show (0 : Int) < 7 by decide⟩, fun q _ => ⟨Int.le_refl 0, show (0 : Int) < 7 by decide⟩, by decide⟩
  refine ⟨⟨1, 7, 0, 0, ⟨rfl, pOk_7, s0, 2, rfl, by decide, fun a h1 h2 => ?_⟩, ⟨s0, rfl, rfl, rfl, rfl, fun q hq => ?_, fun q hq => ?_, fun q _ => by rw [Nat.zero_add]; exact M0_nn q⟩, ⟨rfl, rfl, by decide, by decide⟩, rfl, fun t ht => absurd ht (by omega)⟩, Or.inl ⟨rfl, by decide⟩, ⟨0, by decide, rfl, rfl, fun q => rfl, fun q hq => absurd hq (by omega)⟩, fun s hs => ⟨Or.inl rfl, ?_, ⟨Int.le_refl 0, show (0 : Int) ≤ 24 by decide⟩, fun q => absurd rfl q, ⟨Int.le_refl 0, show (0 : Int) ≤ 24 by decide⟩, fun q hq => rfl⟩, Or.inl rfl⟩
  · rcases (show a = 1 by omega) with rfl
    decide
  · rcases (show q = 0 by omega) with rfl
    rfl
  · rcases (show q = 0 by omega) with rfl
    rfl
  · show (if s < 4 then (-1 : Int) else 0) = -1
    rw [if_pos hs]
