/-! ===== the law: its switch, its loop ===== -/
theorem law_sw {g : fG} {sb L : Nat} {xs : Nat → Int32} {i : Nat} {M : fM} (hi : i + 6 ≤ L) (hR : Rel M) (kk : ∀ M2, Rel M2 → lAt g sb L xs 1138 i [] M2) (z : Int) : lAt g sb L xs 33 i [vi z] M := by
  rcases (show z = 0 ∨ z = 1 ∨ z = 2 ∨ z = 3 ∨ z = 4 ∨ z = 5 ∨ z = 6 ∨ z = 7 ∨ z = 8 ∨ z = 9 ∨ z = 10 ∨ z = 11 ∨ z = 12 ∨ z = 13 ∨ z = 14 ∨ z = 15 ∨ z = 16 ∨ z = 17 ∨ z = 18 ∨ z = 19 ∨ z = 20 ∨ z = 21 ∨ z = 22 ∨ z = 23 ∨ z = 24 ∨ z = 25 ∨ z = 26 ∨ z = 27 ∨ z = 28 ∨ z = 29 ∨ z = 30 ∨ z = 31 ∨ z = 32 ∨ z = 33 ∨ (z < 0 ∨ 33 < z) by omega) with rfl | rfl | rfl | rfl | rfl | rfl | rfl | rfl | rfl | rfl | rfl | rfl | rfl | rfl | rfl | rfl | rfl | rfl | rfl | rfl | rfl | rfl | rfl | rfl | rfl | rfl | rfl | rfl | rfl | rfl | rfl | rfl | rfl | rfl | h
  · exact la_tabIn 184 dL_law_33 (by decide) (by decide) rfl (by decide) (lc_0 hi hR kk)
  · exact la_tabIn 207 dL_law_33 (by decide) (by decide) rfl (by decide) (lc_1 hi hR kk)
  · exact la_tabIn 230 dL_law_33 (by decide) (by decide) rfl (by decide) (lc_2 hi hR kk)
  · exact la_tabIn 243 dL_law_33 (by decide) (by decide) rfl (by decide) (lc_3 hi hR kk)
  · exact la_tabIn 266 dL_law_33 (by decide) (by decide) rfl (by decide) (lc_4 hi hR kk)
  · exact la_tabIn 289 dL_law_33 (by decide) (by decide) rfl (by decide) (lc_5 hi hR kk)
  · exact la_tabIn 322 dL_law_33 (by decide) (by decide) rfl (by decide) (lc_6 hi hR kk)
  · exact la_tabIn 345 dL_law_33 (by decide) (by decide) rfl (by decide) (lc_7 hi hR kk)
  · exact la_tabIn 378 dL_law_33 (by decide) (by decide) rfl (by decide) (lc_8 hi hR kk)
  · exact la_tabIn 411 dL_law_33 (by decide) (by decide) rfl (by decide) (lc_9 hi hR kk)
  · exact la_tabIn 434 dL_law_33 (by decide) (by decide) rfl (by decide) (lc_10 hi hR kk)
  · exact la_tabIn 447 dL_law_33 (by decide) (by decide) rfl (by decide) (lc_11 hi hR kk)
  · exact la_tabIn 460 dL_law_33 (by decide) (by decide) rfl (by decide) (lc_12 hi hR kk)
  · exact la_tabIn 473 dL_law_33 (by decide) (by decide) rfl (by decide) (lc_13 hi hR kk)
  · exact la_tabIn 496 dL_law_33 (by decide) (by decide) rfl (by decide) (lc_14 hi hR kk)
  · exact la_tabIn 509 dL_law_33 (by decide) (by decide) rfl (by decide) (lc_15 hi hR kk)
  · exact la_tabIn 532 dL_law_33 (by decide) (by decide) rfl (by decide) (lc_16 hi hR kk)
  · exact la_tabIn 555 dL_law_33 (by decide) (by decide) rfl (by decide) (lc_17 hi hR kk)
  · exact la_tabIn 578 dL_law_33 (by decide) (by decide) rfl (by decide) (lc_18 hi hR kk)
  · exact la_tabIn 602 dL_law_33 (by decide) (by decide) rfl (by decide) (lc_19 hi hR kk)
  · exact la_tabIn 635 dL_law_33 (by decide) (by decide) rfl (by decide) (lc_20 hi hR kk)
  · exact la_tabIn 668 dL_law_33 (by decide) (by decide) rfl (by decide) (lc_21 hi hR kk)
  · exact la_tabIn 691 dL_law_33 (by decide) (by decide) rfl (by decide) (lc_22 hi hR kk)
  · exact la_tabIn 714 dL_law_33 (by decide) (by decide) rfl (by decide) (lc_23 hi hR kk)
  · exact la_tabIn 737 dL_law_33 (by decide) (by decide) rfl (by decide) (lc_24 hi hR kk)
  · exact la_tabIn 771 dL_law_33 (by decide) (by decide) rfl (by decide) (lc_25 hi hR kk)
  · exact la_tabIn 784 dL_law_33 (by decide) (by decide) rfl (by decide) (lc_26 hi hR kk)
  · exact la_tabIn 797 dL_law_33 (by decide) (by decide) rfl (by decide) (lc_27 hi hR kk)
  · exact la_tabIn 840 dL_law_33 (by decide) (by decide) rfl (by decide) (lc_28 hi hR kk)
  · exact la_tabIn 883 dL_law_33 (by decide) (by decide) rfl (by decide) (lc_29 hi hR kk)
  · exact la_tabIn 926 dL_law_33 (by decide) (by decide) rfl (by decide) (lc_30 hi hR kk)
  · exact la_tabIn 969 dL_law_33 (by decide) (by decide) rfl (by decide) (lc_31 hi hR kk)
  · exact la_tabIn 992 dL_law_33 (by decide) (by decide) rfl (by decide) (lc_32 hi hR kk)
  · exact la_tabIn 1075 dL_law_33 (by decide) (by decide) rfl (by decide) (lc_33 hi hR kk)
  · exact la_tabOut 1138 dL_law_33 h (by decide) (kk M hR)
theorem la_head {g : fG} {sb L : Nat} {xs : Nat → Int32} {i : Nat} {M : fM} (hi : i ≤ 3080) (hgt : L < i + 6 → lAt g sb L xs 1144 i [] M) (hle : i + 6 ≤ L → lAt g sb L xs 27 i [] M) : lAt g sb L xs 18 i [] M := by
  intro hR hM p e s m below meth c H locs ar hE hP hS hl
  obtain ⟨⟨hx, hb, hr, hml, hown, hts, hX, hbl, hlocks, hgv⟩, hL, -⟩ := id hE
  have hbA : ¬ (fun q : Nat => s.heap.size ≤ q) sb := Nat.not_le.mpr hbl
  refine lv_iload_n hx hb dL_law_18 rfl (lv_at hl 0 rfl) ?_
  refine lv_aload_n hx hb dL_law_19 rfl (lv_at hl 3 rfl) ?_
  refine va_slen hx hb hX hbl hbA hS dL_law_20 ?_
  refine lv_bipush (v := Int32.ofInt 6) hx hb dL_law_21 (by decide) ?_
  refine lv_isub hx hb dL_law_23 ?_
  have e0 : Int32.ofNat L = Int32.ofInt (L : Int) := (Int32.ofInt_eq_ofNat (n := L)).symm
  have e1 : Int32.ofNat L - Int32.ofInt 6 = Int32.ofInt ((L : Int) - 6) := by rw [e0, ← Int32.ofInt_sub]
  rw [e1]
  have r1 : R32 ((L : Int) - 6) := by omega
  have r2 : R32 (i : Int) := by omega
  refine lv_icmp_gt (tgt := 1144) hx hb dL_law_24 (by decide) (fun q => ?_) (fun q => ?_)
  · have q1 := (r32_lt r1 r2).mp q
    exact hgt (by omega) hR hM p e s m below meth c H locs ar hE hP hS hl
  · have q1 : ¬ ((L : Int) - 6 < (i : Int)) := fun z => q ((r32_lt r1 r2).mpr z)
    exact hle (by omega) hR hM p e s m below meth c H locs ar hE hP hS hl
theorem la_op {g : fG} {sb L : Nat} {xs : Nat → Int32} {i : Nat} {M : fM} (hi : i < L) (kk : ∀ z, lAt g sb L xs 33 i [vi z] M) : lAt g sb L xs 27 i [] M := by
  refine la_p (kk (xs i &&& (Int8.ofInt 63).toInt32).toInt) (fun hR => ⟨r32_in _, hR⟩) (fun hR p e s m below meth c H locs ar Z hE hS hl k => ?_)
  obtain ⟨⟨hx, hb, hr, hml, hown, hts, hX, hbl, hlocks, hgv⟩, hL, -⟩ := id hE
  have hbA : ¬ (fun q : Nat => s.heap.size ≤ q) sb := Nat.not_le.mpr hbl
  obtain ⟨i1, i2⟩ := la_idx hi hL
  refine lv_aload_n hx hb dL_law_27 rfl (lv_at hl 3 rfl) ?_
  refine lv_iload_n hx hb dL_law_28 rfl (lv_at hl 0 rfl) ?_
  refine va_sld hx hb hX hbl hbA hS i1 dL_law_29 ?_
  rw [i2]
  refine lv_bipush (v := (Int8.ofInt 63).toInt32) hx hb dL_law_30 rfl ?_
  refine lv_iand hx hb dL_law_32 ?_
  have k : W p g.1 e room_1 s m #[Value.ref sb] below meth c H locs 115 1838 Z (F0 m 33 ar [.int (Int32.ofInt (xs i &&& (Int8.ofInt 63).toInt32).toInt)]) := k
  rw [Int32.ofInt_toInt] at k
  exact k
theorem la_next {g : fG} {sb L : Nat} {xs : Nat → Int32} {i : Nat} {M : fM} (kk : lAt g sb L xs 18 (i + 6) [] M) : lAt g sb L xs 1138 i [] M := by
  intro hR hM p e s m below meth c H locs ar hE hP hS hl
  refine lv_iinc (k := 0) (x := Int32.ofInt (i : Int)) (v := Int32.ofInt ((i + 6 : Nat) : Int)) (lv' := lLs g sb (i + 6)) hE.1.1 hE.1.2.1 dL_law_1138 hl rfl (by rw [← Int32.ofInt_add]; rfl) (by decide) rfl (fun ar2 hl2 => ?_)
  refine lv_goto hE.1.1 hE.1.2.1 dL_law_1141 (tgt := 18) (by decide) ?_
  exact kk hR hM p e s m below meth c H locs ar2 hE hP hS hl2
theorem la_end {g : fG} {sb L : Nat} {xs : Nat → Int32} {i : Nat} {M : fM} : lAt g sb L xs 1144 i [] M := by
  intro hR hM p e s m below meth c H locs ar hE hP hS hl
  obtain ⟨⟨hx, hb, hr, hml, hown, hts, hX, hbl, hlocks, hgv⟩, hL, -⟩ := id hE
  refine lv_iconst (v := 1) hx hb dL_law_1144 (by decide) ?_
  refine va_forget hS.2.2 ?_
  refine W.widen (k := 600000) (n := 7302250) (Nat.le_of_ble_eq_true rfl) (Nat.le_of_ble_eq_true rfl) ?_
  exact lw_ret hx hb hr hlocks dL_law_1145
theorem law_loop {g : fG} {sb L : Nat} {xs : Nat → Int32} (hL : L ≤ 3072) : ∀ (n i : Nat) (M : fM), L ≤ i + n → i ≤ 3080 → Rel M → lAt g sb L xs 18 i [] M := by
  intro n
  induction n with
  | zero => exact fun i M h hi hR => la_head hi (fun _ => la_end) (fun q => absurd q (by omega))
  | succ n ih => exact fun i M h hi hR => la_head hi (fun _ => la_end) (fun q => la_op (by omega) (law_sw q hR (fun M2 hR2 => la_next (ih (i + 6) M2 (by omega) (by omega) hR2))))
