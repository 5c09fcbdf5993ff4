/-! ===== LeanDiagonals: what tests arguments ===== -/
def gS (M M' : fM) : Prop := ∀ k a b, k ≠ 8 → k ≠ 10 → k ≠ 11 → k ≠ 12 → M' k a b = M k a b
theorem gS_r (M : fM) : gS M M := fun _ _ _ _ _ _ _ => rfl
theorem gS_t {M N L : fM} (h1 : gS M N) (h2 : gS N L) : gS M L := fun k a b q1 q2 q3 q4 => (h2 k a b q1 q2 q3 q4).trans (h1 k a b q1 q2 q3 q4)
def gI (M : fM) : Prop := ∃ q, gOk q M
theorem sOk_S {M M' : fM} {i w : Nat} {p : Int} (h : gS M M') (hs : sOk M i w p) : sOk M' i w p := by
  obtain ⟨h1, h2, h3, h4, h5, h6⟩ := hs
  refine ⟨?_, h2, ?_, fun q hq => ?_, fun q hq => ?_, ?_⟩
  · rw [h 2 i 0 (by decide) (by decide) (by decide) (by decide)]; exact h1
  · rw [h 2 i 1 (by decide) (by decide) (by decide) (by decide)]; exact h3
  · rw [h 3 i q (by decide) (by decide) (by decide) (by decide)]; exact h4 q hq
  · rw [h 4 i q (by decide) (by decide) (by decide) (by decide)]; exact h5 q hq
  · rw [h 2 i 2 (by decide) (by decide) (by decide) (by decide)]; exact h6
theorem eM_S {M M' : fM} {i w : Nat} {p : Int} (h : gS M M') : eM M' i w p = eM M i w p := by
  have e1 : M' 2 i 1 = M 2 i 1 := h 2 i 1 (by decide) (by decide) (by decide) (by decide)
  have e2 : M' 3 i = M 3 i := funext fun q => h 3 i q (by decide) (by decide) (by decide) (by decide)
  unfold eM
  rw [e1, e2]
theorem gS_w {M : fM} {p : Int} {f : Nat → Int} {C : Nat → Nat → Int} : gS M (wC (wG M p f) C) := fun k a b q1 q2 q3 q4 => by
  rw [wC_ne q2]
  exact wG_off q1 q4
theorem gS_wa {M : fM} {p : Int} {f a0 : Nat → Int} {C : Nat → Nat → Int} : gS M (wC (wA (wG M p f) a0) C) := fun k a b q1 q2 q3 q4 => by
  rw [wC_ne q2]
  show (if k = 11 ∧ a = 0 then a0 b else wG M p f k a b) = _
  rw [if_neg (fun h => q3 h.1)]
  exact wG_off q1 q4
theorem prm_d : ∀ p : Fin 98, 2 ≤ p.val → ∀ d : Fin 98, 2 ≤ d.val → p.val < d.val * d.val → (∀ a : Fin 98, 2 ≤ a.val → a.val < d.val → p.val % a.val ≠ 0) → ∀ a : Fin 98, 2 ≤ a.val → a.val < p.val → p.val % a.val ≠ 0 := by
  intro p hp d hd hdd h a ha1 ha2 hz
  have hdv := Nat.dvd_of_mod_eq_zero hz
  obtain ⟨q, hq⟩ := hdv
  have hq0 : 2 ≤ q := by
    rcases Nat.lt_or_ge q 2 with z | z
    · exfalso
      have : q = 0 ∨ q = 1 := by omega
      rcases this with rfl | rfl
      · omega
      · omega
    · exact z
  rcases Nat.lt_or_ge a.val d.val with z | z
  · exact h a ha1 z hz
  · have hqd : q < d.val := by
      rcases Nat.lt_or_ge q d.val with y | y
      · exact y
      · have := Nat.mul_le_mul z y
        omega
    have hq98 : q < 98 := by omega
    exact h ⟨q, hq98⟩ hq0 hqd (by show p.val % q = 0; rw [hq, Nat.mul_mod_left])
theorem prm_i {p : Int} {d : Nat} (hp : 2 ≤ p ∧ p ≤ 97) (hd : 2 ≤ d ∧ d ≤ 97) (h : p < (d : Int) * (d : Int)) (h0 : ∀ a : Nat, 2 ≤ a → a < d → p % (a : Int) ≠ 0) : ∀ a : Nat, 2 ≤ a → (a : Int) < p → p % (a : Int) ≠ 0 := by
  intro a h1 h2 hz
  have e : p = ((p.toNat : Nat) : Int) := by omega
  rw [e] at h h0 hz
  have hz' : p.toNat % a = 0 := by
    rw [← Int.natCast_emod] at hz
    omega
  refine prm_d ⟨p.toNat, by omega⟩ (by show 2 ≤ p.toNat; omega) ⟨d, by omega⟩ hd.1 ?_ (fun b b1 b2 bz => ?_) ⟨a, by omega⟩ h1 (by show a < p.toNat; omega) hz'
  · show p.toNat < d * d
    rw [← Int.natCast_mul] at h
    omega
  · refine h0 b.val b1 b2 ?_
    rw [← Int.natCast_emod]
    have bz : p.toNat % b.val = 0 := bz
    rw [bz]; rfl
set_option maxHeartbeats 4000000 in
set_option maxRecDepth 100000 in
theorem isPrime_l {g : fG} {M : fM} {p : Int} (hp : 2 ≤ p ∧ p ≤ 97) :
    ∀ (n d : Nat), d + n = 97 → 2 ≤ d ∧ d ≤ 97 → (∀ a : Nat, 2 ≤ a → a < d → p % (a : Int) ≠ 0) → fAt g Y_X6_isPrime 15 [some (vi p), some (vi (d : Int))] [] M (fI (fun z M' => ((z = 1 ∧ pOk p) ∨ (z = 0 ∧ ¬ pOk p)) ∧ M' = M)) := by
  intro n
  induction n with
  | zero =>
    intro d hn hd h0
    refine st_iload_n dX6_isPrime_15 rfl ?_
    refine st_iload_n dX6_isPrime_16 rfl ?_
    refine st_imul dX6_isPrime_17 (by have := mulb (x := (d : Int)) (y := (d : Int)) (a := 98) (b := 98) (by omega) (by omega) (by omega) (by omega); omega) ?_
    refine st_iload_n dX6_isPrime_18 rfl ?_
    refine st_icmp_gt 36 dX6_isPrime_19 (by decide) (fun h19 => ?_) (fun h19 => ?_)
    · skip
      refine st_iconst dX6_isPrime_36 (by decide) ?_
      refine st_zreturn dX6_isPrime_37 rfl (by omega) ⟨_, rfl, ⟨Or.inl ⟨rfl, hp, prm_i hp hd h19 h0⟩, rfl⟩⟩
    · skip
      exact absurd h19 (by have h1 := mulb (x := 2) (y := (d : Int)) (a := (d : Int)) (b := (d : Int)) (by omega) (by omega) (by omega) (by omega); omega)
  | succ n ih =>
    intro d hn hd h0
    refine st_iload_n dX6_isPrime_15 rfl ?_
    refine st_iload_n dX6_isPrime_16 rfl ?_
    refine st_imul dX6_isPrime_17 (by have := mulb (x := (d : Int)) (y := (d : Int)) (a := 98) (b := 98) (by omega) (by omega) (by omega) (by omega); omega) ?_
    refine st_iload_n dX6_isPrime_18 rfl ?_
    refine st_icmp_gt 36 dX6_isPrime_19 (by decide) (fun h19 => ?_) (fun h19 => ?_)
    · skip
      refine st_iconst dX6_isPrime_36 (by decide) ?_
      refine st_zreturn dX6_isPrime_37 rfl (by omega) ⟨_, rfl, ⟨Or.inl ⟨rfl, hp, prm_i hp hd h19 h0⟩, rfl⟩⟩
    · skip
      have hdp : (d : Int) < p := by
        have h1 := mulb (x := 2) (y := (d : Int)) (a := (d : Int)) (b := (d : Int)) (by omega) (by omega) (by omega) (by omega)
        omega
      refine st_iload_n dX6_isPrime_22 rfl ?_
      refine st_iload_n dX6_isPrime_23 rfl ?_
      refine st_irem dX6_isPrime_24 (by omega) (by omega) ?_
      refine st_if_ne 30 dX6_isPrime_25 (by decide) (fun h25 => ?_) (fun h25 => ?_)
      · skip
        refine st_iinc (ls' := [some (vi p), some (vi ((d : Int) + 1))]) dX6_isPrime_30 rfl (by omega) (by decide) rfl rfl ?_
        refine st_goto 15 dX6_isPrime_33 (by decide) ?_
        exact ih (d + 1) (by omega) (by omega) (fun a h1 h2 => by
          by_cases e : a = d
          · rw [e]; exact h25
          · exact h0 a h1 (by omega))
      · skip
        refine st_iconst dX6_isPrime_28 (by decide) ?_
        refine st_zreturn dX6_isPrime_29 rfl (by omega) ⟨_, rfl, ⟨Or.inr ⟨rfl, fun hk => hk.2 d (by omega) (by omega) h25⟩, rfl⟩⟩
set_option maxHeartbeats 4000000 in
set_option maxRecDepth 100000 in
theorem c_isPrime {g : fG} {M : fM} {p : Int} :
    fCi g Y_X6_isPrime [vi p] M (fun z M' => ((z = 1 ∧ pOk p) ∨ (z = 0 ∧ ¬ pOk p)) ∧ M' = M) := by
  refine fCi_of _ [some (vi p), none] (by decide) (Nat.le_of_ble_eq_true rfl) rfl (fun h => h) ?_
  refine st_iload_n dX6_isPrime_0 rfl ?_
  refine st_iconst dX6_isPrime_1 (by decide) ?_
  refine st_icmp_lt 11 dX6_isPrime_2 (by decide) (fun h2 => ?_) (fun h2 => ?_)
  · skip
    refine st_iconst dX6_isPrime_11 (by decide) ?_
    refine st_zreturn dX6_isPrime_12 rfl (by omega) ⟨_, rfl, ⟨Or.inr ⟨rfl, fun hk => by have := hk.1; omega⟩, rfl⟩⟩
  · skip
    refine st_iload_n dX6_isPrime_5 rfl ?_
    refine st_bipush dX6_isPrime_6 (by decide) ?_
    refine st_icmp_le 13 dX6_isPrime_8 (by decide) (fun h8 => ?_) (fun h8 => ?_)
    · skip
      refine st_iconst dX6_isPrime_13 (by decide) ?_
      refine st_istore_n (ls' := [some (vi p), some (vi 2)]) dX6_isPrime_14 (by decide) rfl rfl ?_
      exact isPrime_l (by omega) 95 2 (by omega) (by omega) (fun a h1 h2 => absurd h2 (by omega))
    · skip
      refine st_iconst dX6_isPrime_11 (by decide) ?_
      refine st_zreturn dX6_isPrime_12 rfl (by omega) ⟨_, rfl, ⟨Or.inr ⟨rfl, fun hk => by have := hk.1; omega⟩, rfl⟩⟩
set_option maxHeartbeats 4000000 in
set_option maxRecDepth 100000 in
theorem c_isPlace {g : fG} {M : fM} {x : Int} {w : Nat} (hw : M 2 0 0 = (w : Int)) (hw1 : 1 ≤ w ∧ w ≤ 6) :
    fCi g Y_X6_isPlace [vr 0 0, vi x] M (fun z M' => ((z = 1 ∧ 0 ≤ x ∧ x < ((2 * w - 1 : Nat) : Int)) ∨ (z = 0 ∧ ¬ (0 ≤ x ∧ x < ((2 * w - 1 : Nat) : Int)))) ∧ M' = M) := by
  refine fCi_of _ [some (vr 0 0), some (vi x)] (by decide) (Nat.le_of_ble_eq_true rfl) rfl (fun h => h) ?_
  refine st_iload_n dX6_isPlace_0 rfl ?_
  refine st_if_lt 22 dX6_isPlace_1 (by decide) (fun h1 => ?_) (fun h1 => ?_)
  · skip
    refine st_iconst dX6_isPlace_22 (by decide) ?_
    refine st_zreturn dX6_isPlace_23 rfl (by omega) ⟨_, rfl, ⟨by omega, rfl⟩⟩
  · skip
    refine st_iload_n dX6_isPlace_4 rfl ?_
    refine st_aload_n dX6_isPlace_5 rfl ?_
    refine st_getr (i' := 0) dX6_isPlace_6 fl_X6_12 rfl rfl rfl (fun _ => by decide) ?_
    refine st_getr (i' := 0) dX6_isPlace_9 fl_X6_76 rfl rfl rfl (fun _ => by decide) ?_
    refine st_callVi [] [vi x] dX6_isPlace_12 vl_X6_197 rfl rfl rfl rfl (Nat.le_of_ble_eq_true rfl) (by decide) (c_rowLength hw hw1) (fun z M1 q => ?_)
    obtain ⟨rfl, rfl⟩ := q
    refine st_icmp_ge 22 dX6_isPlace_15 (by decide) (fun h15 => ?_) (fun h15 => ?_)
    · skip
      refine st_iconst dX6_isPlace_22 (by decide) ?_
      refine st_zreturn dX6_isPlace_23 rfl (by omega) ⟨_, rfl, ⟨by omega, rfl⟩⟩
    · skip
      refine st_iconst dX6_isPlace_18 (by decide) ?_
      refine st_goto 23 dX6_isPlace_19 (by decide) ?_
      refine st_zreturn dX6_isPlace_23 rfl (by omega) ⟨_, rfl, ⟨by omega, rfl⟩⟩
set_option maxHeartbeats 4000000 in
set_option maxRecDepth 100000 in
theorem c_isWithin {g : fG} {M : fM} {x : Int} {w : Nat} (hw : M 2 0 0 = (w : Int)) (hw1 : 1 ≤ w ∧ w ≤ 6) :
    fCi g Y_X6_isWithin [vr 0 0, vi x] M (fun z M' => ((z = 1 ∧ 0 ≤ x ∧ x < (w : Int)) ∨ (z = 0 ∧ ¬ (0 ≤ x ∧ x < (w : Int)))) ∧ M' = M) := by
  refine fCi_of _ [some (vr 0 0), some (vi x)] (by decide) (Nat.le_of_ble_eq_true rfl) rfl (fun h => h) ?_
  refine st_iload_n dX6_isWithin_0 rfl ?_
  refine st_if_lt 22 dX6_isWithin_1 (by decide) (fun h1 => ?_) (fun h1 => ?_)
  · skip
    refine st_iconst dX6_isWithin_22 (by decide) ?_
    refine st_zreturn dX6_isWithin_23 rfl (by omega) ⟨_, rfl, ⟨by omega, rfl⟩⟩
  · skip
    refine st_iload_n dX6_isWithin_4 rfl ?_
    refine st_aload_n dX6_isWithin_5 rfl ?_
    refine st_getr (i' := 0) dX6_isWithin_6 fl_X6_12 rfl rfl rfl (fun _ => by decide) ?_
    refine st_getr (i' := 0) dX6_isWithin_9 fl_X6_76 rfl rfl rfl (fun _ => by decide) ?_
    refine st_get dX6_isWithin_12 fl_X6_106 rfl rfl rfl ?_
    refine fAt_v (x' := (w : Int)) hw ?_
    refine st_icmp_ge 22 dX6_isWithin_15 (by decide) (fun h15 => ?_) (fun h15 => ?_)
    · skip
      refine st_iconst dX6_isWithin_22 (by decide) ?_
      refine st_zreturn dX6_isWithin_23 rfl (by omega) ⟨_, rfl, ⟨by omega, rfl⟩⟩
    · skip
      refine st_iconst dX6_isWithin_18 (by decide) ?_
      refine st_goto 23 dX6_isWithin_19 (by decide) ?_
      refine st_zreturn dX6_isWithin_23 rfl (by omega) ⟨_, rfl, ⟨by omega, rfl⟩⟩
set_option maxHeartbeats 4000000 in
set_option maxRecDepth 100000 in
theorem c_isNumber {g : fG} {M : fM} {x p : Int} (hp : M 1 0 0 = p) :
    fCi g Y_X6_isNumber [vr 0 0, vl x] M (fun z M' => ((z = 1 ∧ 0 ≤ x ∧ x < p) ∨ (z = 0 ∧ ¬ (0 ≤ x ∧ x < p))) ∧ M' = M) := by
  refine fCi_of _ [some (vr 0 0), some (vl x), none] (by decide) (Nat.le_of_ble_eq_true rfl) rfl (fun h => h) ?_
  refine st_lload_n dX6_isNumber_0 rfl ?_
  refine st_lconst0 dX6_isNumber_1 ?_
  refine st_lcmp dX6_isNumber_2 ?_
  refine st_if_lt 23 dX6_isNumber_3 (by decide) (fun h3 => ?_) (fun h3 => ?_)
  · skip
    have h3 := fcmp_lt.mp h3
    refine st_iconst dX6_isNumber_23 (by decide) ?_
    refine st_zreturn dX6_isNumber_24 rfl (by omega) ⟨_, rfl, ⟨by omega, rfl⟩⟩
  · skip
    have h3 : ¬ x < 0 := fun q => absurd (fcmp_lt.mpr q) (by omega)
    refine st_lload_n dX6_isNumber_6 rfl ?_
    refine st_aload_n dX6_isNumber_7 rfl ?_
    refine st_getr (i' := 0) dX6_isNumber_8 fl_X6_12 rfl rfl rfl (fun _ => by decide) ?_
    refine st_get dX6_isNumber_11 fl_X6_72 rfl rfl rfl ?_
    refine fAt_v (x' := p) hp ?_
    refine st_i2l dX6_isNumber_14 ?_
    refine st_lcmp dX6_isNumber_15 ?_
    refine st_if_ge 23 dX6_isNumber_16 (by decide) (fun h16 => ?_) (fun h16 => ?_)
    · skip
      have h16 : ¬ x < p := fun q => absurd (fcmp_lt.mpr q) (by omega)
      refine st_iconst dX6_isNumber_23 (by decide) ?_
      refine st_zreturn dX6_isNumber_24 rfl (by omega) ⟨_, rfl, ⟨by omega, rfl⟩⟩
    · skip
      have h16 := fcmp_lt.mp h16
      refine st_iconst dX6_isNumber_19 (by decide) ?_
      refine st_goto 24 dX6_isNumber_20 (by decide) ?_
      refine st_zreturn dX6_isNumber_24 rfl (by omega) ⟨_, rfl, ⟨by omega, rfl⟩⟩
set_option maxHeartbeats 4000000 in
set_option maxRecDepth 100000 in
theorem c_isSheet {g : fG} {M : fM} {x : Int} :
    fCi g Y_X6_isSheet [vi x] M (fun z M' => ((z = 1 ∧ 0 ≤ x ∧ x < 4) ∨ (z = 0 ∧ ¬ (0 ≤ x ∧ x < 4))) ∧ M' = M) := by
  refine fCi_of _ [some (vi x)] (by decide) (Nat.le_of_ble_eq_true rfl) rfl (fun h => h) ?_
  refine st_iload_n dX6_isSheet_0 rfl ?_
  refine st_if_lt 13 dX6_isSheet_1 (by decide) (fun h1 => ?_) (fun h1 => ?_)
  · skip
    refine st_iconst dX6_isSheet_13 (by decide) ?_
    refine st_zreturn dX6_isSheet_14 rfl (by omega) ⟨_, rfl, ⟨by omega, rfl⟩⟩
  · skip
    refine st_iload_n dX6_isSheet_4 rfl ?_
    refine st_iconst dX6_isSheet_5 (by decide) ?_
    refine st_icmp_ge 13 dX6_isSheet_6 (by decide) (fun h6 => ?_) (fun h6 => ?_)
    · skip
      refine st_iconst dX6_isSheet_13 (by decide) ?_
      refine st_zreturn dX6_isSheet_14 rfl (by omega) ⟨_, rfl, ⟨by omega, rfl⟩⟩
    · skip
      refine st_iconst dX6_isSheet_9 (by decide) ?_
      refine st_goto 14 dX6_isSheet_10 (by decide) ?_
      refine st_zreturn dX6_isSheet_14 rfl (by omega) ⟨_, rfl, ⟨by omega, rfl⟩⟩
set_option maxHeartbeats 4000000 in
set_option maxRecDepth 100000 in
theorem c_isLane {g : fG} {M : fM} {x : Int} :
    fCi g Y_X6_isLane [vi x] M (fun z M' => ((z = 1 ∧ 0 ≤ x ∧ x < 4) ∨ (z = 0 ∧ ¬ (0 ≤ x ∧ x < 4))) ∧ M' = M) := by
  refine fCi_of _ [some (vi x)] (by decide) (Nat.le_of_ble_eq_true rfl) rfl (fun h => h) ?_
  refine st_iload_n dX6_isLane_0 rfl ?_
  refine st_if_lt 13 dX6_isLane_1 (by decide) (fun h1 => ?_) (fun h1 => ?_)
  · skip
    refine st_iconst dX6_isLane_13 (by decide) ?_
    refine st_zreturn dX6_isLane_14 rfl (by omega) ⟨_, rfl, ⟨by omega, rfl⟩⟩
  · skip
    refine st_iload_n dX6_isLane_4 rfl ?_
    refine st_iconst dX6_isLane_5 (by decide) ?_
    refine st_icmp_ge 13 dX6_isLane_6 (by decide) (fun h6 => ?_) (fun h6 => ?_)
    · skip
      refine st_iconst dX6_isLane_13 (by decide) ?_
      refine st_zreturn dX6_isLane_14 rfl (by omega) ⟨_, rfl, ⟨by omega, rfl⟩⟩
    · skip
      refine st_iconst dX6_isLane_9 (by decide) ?_
      refine st_goto 14 dX6_isLane_10 (by decide) ?_
      refine st_zreturn dX6_isLane_14 rfl (by omega) ⟨_, rfl, ⟨by omega, rfl⟩⟩
set_option maxHeartbeats 4000000 in
set_option maxRecDepth 100000 in
theorem c_isHalf {g : fG} {M : fM} {x : Int} :
    fCi g Y_X6_isHalf [vi x] M (fun z M' => ((z = 1 ∧ (x = 0 ∨ x = 1)) ∨ (z = 0 ∧ ¬ (x = 0 ∨ x = 1))) ∧ M' = M) := by
  refine fCi_of _ [some (vi x)] (by decide) (Nat.le_of_ble_eq_true rfl) rfl (fun h => h) ?_
  refine st_iload_n dX6_isHalf_0 rfl ?_
  refine st_if_eq 9 dX6_isHalf_1 (by decide) (fun h1 => ?_) (fun h1 => ?_)
  · skip
    refine st_iconst dX6_isHalf_9 (by decide) ?_
    refine st_goto 14 dX6_isHalf_10 (by decide) ?_
    refine st_zreturn dX6_isHalf_14 rfl (by omega) ⟨_, rfl, ⟨by omega, rfl⟩⟩
  · skip
    refine st_iload_n dX6_isHalf_4 rfl ?_
    refine st_iconst dX6_isHalf_5 (by decide) ?_
    refine st_icmp_ne 13 dX6_isHalf_6 (by decide) (fun h6 => ?_) (fun h6 => ?_)
    · skip
      refine st_iconst dX6_isHalf_13 (by decide) ?_
      refine st_zreturn dX6_isHalf_14 rfl (by omega) ⟨_, rfl, ⟨by omega, rfl⟩⟩
    · skip
      refine st_iconst dX6_isHalf_9 (by decide) ?_
      refine st_goto 14 dX6_isHalf_10 (by decide) ?_
      refine st_zreturn dX6_isHalf_14 rfl (by omega) ⟨_, rfl, ⟨by omega, rfl⟩⟩
theorem pow_b {x : Int} (hx : 0 ≤ x ∧ x ≤ 97) : ∀ {n : Nat}, n ≤ 8 → 0 ≤ x ^ n ∧ x ^ n ≤ 97 ^ n
  | 0, _ => by simp
  | n + 1, h => by
    have ih := pow_b hx (n := n) (by omega)
    rw [Int.pow_succ, Int.pow_succ]
    exact mulb ih.1 hx.1 ih.2 hx.2
theorem pow_b10 {x : Int} (hx : 0 ≤ x ∧ x ≤ 10) : ∀ {n : Nat}, 0 ≤ x ^ n ∧ x ^ n ≤ 10 ^ n
  | 0 => by simp
  | n + 1 => by
    have ih := pow_b10 hx (n := n)
    rw [Int.pow_succ, Int.pow_succ]
    exact mulb ih.1 hx.1 ih.2 hx.2
set_option maxHeartbeats 4000000 in
set_option maxRecDepth 100000 in
theorem power_l {g : fG} {M : fM} {x : Int} {n : Nat} (hn1 : n ≤ 100) (hb : ∀ e, e ≤ n → R64 (x ^ e)) :
    ∀ (m e : Nat), e + m = n → fAt g Y_X6_power 5 [some (vl x), none, some (vi (n : Int)), some (vl (x ^ e)), none, some (vi (e : Int))] [] M (fL (fun z M' => z = x ^ n ∧ M' = M)) := by
  intro m
  induction m with
  | zero =>
    intro e hn
    have q : e = n := by omega
    subst q
    refine st_iload dX6_power_5 rfl ?_
    refine st_iload_n dX6_power_7 rfl ?_
    refine st_icmp_ge 21 dX6_power_8 (by decide) (fun h8 => ?_) (fun h8 => ?_)
    · skip
      refine st_lload_n dX6_power_21 rfl ?_
      refine st_lreturn dX6_power_22 rfl ⟨_, rfl, ⟨rfl, rfl⟩⟩
    · skip
      exact absurd h8 (by omega)
  | succ m ih =>
    intro e hn
    refine st_iload dX6_power_5 rfl ?_
    refine st_iload_n dX6_power_7 rfl ?_
    refine st_icmp_ge 21 dX6_power_8 (by decide) (fun h8 => ?_) (fun h8 => ?_)
    · skip
      exact absurd h8 (by omega)
    · skip
      refine st_lload_n dX6_power_11 rfl ?_
      refine st_lload_n dX6_power_12 rfl ?_
      refine st_lmul dX6_power_13 (by rw [← Int.pow_succ]; exact hb (e + 1) (by omega)) ?_
      refine st_lstore_n (ls' := [some (vl x), none, some (vi (n : Int)), some (vl ((x ^ e) * x)), none, some (vi (e : Int))]) dX6_power_14 (by decide) rfl rfl ?_
      refine st_iinc (ls' := [some (vl x), none, some (vi (n : Int)), some (vl ((x ^ e) * x)), none, some (vi ((e : Int) + 1))]) dX6_power_15 rfl (by omega) (by decide) rfl rfl ?_
      refine st_goto 5 dX6_power_18 (by decide) ?_
      refine fAt_ls (by rw [← Int.pow_succ]) ?_
      exact ih (e + 1) (by omega)
set_option maxHeartbeats 4000000 in
set_option maxRecDepth 100000 in
theorem c_power {g : fG} {M : fM} {x : Int} {n : Nat} (hn1 : n ≤ 100) (hb : ∀ e, e ≤ n → R64 (x ^ e)) :
    fCl g Y_X6_power [vl x, vi (n : Int)] M (fun z M' => z = x ^ n ∧ M' = M) := by
  refine fCl_of _ [some (vl x), none, some (vi (n : Int)), none, none, none] (by decide) (Nat.le_of_ble_eq_true rfl) rfl (fun h => h) ?_
  refine st_lconst1 dX6_power_0 ?_
  refine st_lstore_n (ls' := [some (vl x), none, some (vi (n : Int)), some (vl 1), none, none]) dX6_power_1 (by decide) rfl rfl ?_
  refine st_iconst dX6_power_2 (by decide) ?_
  refine st_istore (ls' := [some (vl x), none, some (vi (n : Int)), some (vl 1), none, some (vi 0)]) dX6_power_3 (by decide) rfl rfl ?_
  refine fAt_ls (ls' := [some (vl x), none, some (vi (n : Int)), some (vl (x ^ 0)), none, some (vi ((0 : Nat) : Int))]) (by rw [Int.pow_zero]; rfl) ?_
  exact power_l hn1 hb n 0 (by omega)
/-- what refuses n items of a sheet from item i on -/
def rfs (M : fM) (s la i n : Int) : Int := if ¬ (0 ≤ s ∧ s < 4) ∨ ¬ (0 ≤ la ∧ la < 4) then -1 else if M 20 s.toNat 0 = -1 then -11 else if M 20 s.toNat 0 ≠ la then -12 else if 0 ≤ i ∧ 0 ≤ n ∧ i + n ≤ M 20 s.toNat 1 then 0 else -13
def shL (M : fM) : Prop := ∀ s, s < 4 → 0 ≤ M 20 s 1 ∧ M 20 s 1 ≤ 24
set_option maxHeartbeats 4000000 in
set_option maxRecDepth 100000 in
theorem c_refusalOf {g : fG} {M : fM} {s la i n : Int} (hs : shL M) :
    fCi g Y_X6_refusalOf [vr 0 0, vi s, vi la, vi i, vi n] M (fun z M' => z = rfs M s la i n ∧ M' = M) := by
  refine fCi_of _ [some (vr 0 0), some (vi s), some (vi la), some (vi i), some (vi n)] (by decide) (Nat.le_of_ble_eq_true rfl) rfl (fun h => h) ?_
  refine st_iload_n dX6_refusalOf_0 rfl ?_
  refine st_callSi [vi s] [] dX6_refusalOf_1 sl_X6_260 rfl rfl (Nat.le_of_ble_eq_true rfl) (by decide) (c_isSheet) (fun z1 M1 q1 => ?_)
  obtain ⟨q1, rfl⟩ := q1
  rcases q1 with ⟨rfl, a1⟩ | ⟨rfl, a1⟩
  · skip
    refine st_if_eq 14 dX6_refusalOf_4 (by decide) (fun h4 => ?_) (fun h4 => ?_)
    · skip
      exact absurd h4 (by omega)
    · skip
      refine st_iload_n dX6_refusalOf_7 rfl ?_
      refine st_callSi [vi la] [] dX6_refusalOf_8 sl_X6_263 rfl rfl (Nat.le_of_ble_eq_true rfl) (by decide) (c_isLane) (fun z2 M2 q2 => ?_)
      obtain ⟨q2, rfl⟩ := q2
      rcases q2 with ⟨rfl, a2⟩ | ⟨rfl, a2⟩
      · skip
        refine st_if_ne 16 dX6_refusalOf_11 (by decide) (fun h11 => ?_) (fun h11 => ?_)
        · skip
          refine st_aload_n dX6_refusalOf_16 rfl ?_
          refine st_getr (i' := 0) dX6_refusalOf_17 fl_X6_63 rfl rfl rfl (fun _ => by decide) ?_
          refine st_iload_n dX6_refusalOf_20 rfl ?_
          refine st_aald (j := s.toNat) (i' := s.toNat) dX6_refusalOf_21 rfl rfl rfl rfl ⟨_, rfl, rfl⟩ (by omega) (show s.toNat < 4 from by omega) rfl (fun _ => show s.toNat < 4 from by omega) ?_
          refine st_callVi [] [] dX6_refusalOf_22 vl_X6_270 rfl rfl rfl rfl (Nat.le_of_ble_eq_true rfl) (by decide) (c_isMissing) (fun z3 M3 q3 => ?_)
          obtain ⟨q3, rfl⟩ := q3
          rcases q3 with ⟨rfl, a3⟩ | ⟨rfl, a3⟩
          · skip
            refine st_if_eq 31 dX6_refusalOf_25 (by decide) (fun h25 => ?_) (fun h25 => ?_)
            · skip
              exact absurd h25 (by omega)
            · skip
              refine st_bipush dX6_refusalOf_28 (by decide) ?_
              refine st_ireturn dX6_refusalOf_30 rfl ⟨_, rfl, ⟨?_, rfl⟩⟩
              unfold rfs; rw [if_neg (by omega), if_pos a3]
          · skip
            refine st_if_eq 31 dX6_refusalOf_25 (by decide) (fun h25 => ?_) (fun h25 => ?_)
            · skip
              refine st_aload_n dX6_refusalOf_31 rfl ?_
              refine st_getr (i' := 0) dX6_refusalOf_32 fl_X6_63 rfl rfl rfl (fun _ => by decide) ?_
              refine st_iload_n dX6_refusalOf_35 rfl ?_
              refine st_aald (j := s.toNat) (i' := s.toNat) dX6_refusalOf_36 rfl rfl rfl rfl ⟨_, rfl, rfl⟩ (by omega) (show s.toNat < 4 from by omega) rfl (fun _ => show s.toNat < 4 from by omega) ?_
              refine st_get dX6_refusalOf_37 fl_X6_281 rfl rfl rfl ?_
              refine st_iload_n dX6_refusalOf_40 rfl ?_
              refine st_icmp_eq 47 dX6_refusalOf_41 (by decide) (fun h41 => ?_) (fun h41 => ?_)
              · skip
                refine st_aload_n dX6_refusalOf_47 rfl ?_
                refine st_getr (i' := 0) dX6_refusalOf_48 fl_X6_63 rfl rfl rfl (fun _ => by decide) ?_
                refine st_iload_n dX6_refusalOf_51 rfl ?_
                refine st_aald (j := s.toNat) (i' := s.toNat) dX6_refusalOf_52 rfl rfl rfl rfl ⟨_, rfl, rfl⟩ (by omega) (show s.toNat < 4 from by omega) rfl (fun _ => show s.toNat < 4 from by omega) ?_
                refine st_iload_n dX6_refusalOf_53 rfl ?_
                refine st_iload dX6_refusalOf_54 rfl ?_
                refine st_callVi [vi i, vi n] [] dX6_refusalOf_56 vl_X6_284 rfl rfl rfl rfl (Nat.le_of_ble_eq_true rfl) (by decide) (c_holds (hs _ (by omega))) (fun z4 M4 q4 => ?_)
                obtain ⟨q4, rfl⟩ := q4
                rcases q4 with ⟨rfl, a4⟩ | ⟨rfl, a4⟩
                · skip
                  refine st_if_eq 66 dX6_refusalOf_59 (by decide) (fun h59 => ?_) (fun h59 => ?_)
                  · skip
                    exact absurd h59 (by omega)
                  · skip
                    refine st_iconst dX6_refusalOf_62 (by decide) ?_
                    refine st_goto 68 dX6_refusalOf_63 (by decide) ?_
                    refine st_ireturn dX6_refusalOf_68 rfl ⟨_, rfl, ⟨?_, rfl⟩⟩
                    unfold rfs; rw [if_neg (by omega), if_neg a3, if_neg (fun q => q h41)]; first | rw [if_pos a4] | rw [if_neg a4]
                · skip
                  refine st_if_eq 66 dX6_refusalOf_59 (by decide) (fun h59 => ?_) (fun h59 => ?_)
                  · skip
                    refine st_bipush dX6_refusalOf_66 (by decide) ?_
                    refine st_ireturn dX6_refusalOf_68 rfl ⟨_, rfl, ⟨?_, rfl⟩⟩
                    unfold rfs; rw [if_neg (by omega), if_neg a3, if_neg (fun q => q h41)]; first | rw [if_pos a4] | rw [if_neg a4]
                  · skip
                    exact absurd rfl h59
              · skip
                refine st_bipush dX6_refusalOf_44 (by decide) ?_
                refine st_ireturn dX6_refusalOf_46 rfl ⟨_, rfl, ⟨?_, rfl⟩⟩
                unfold rfs; rw [if_neg (by omega), if_neg a3, if_pos h41]
            · skip
              exact absurd rfl h25
        · skip
          exact absurd h11 (by omega)
      · skip
        refine st_if_ne 16 dX6_refusalOf_11 (by decide) (fun h11 => ?_) (fun h11 => ?_)
        · skip
          exact absurd rfl h11
        · skip
          refine st_iconst dX6_refusalOf_14 (by decide) ?_
          refine st_ireturn dX6_refusalOf_15 rfl ⟨_, rfl, ⟨?_, rfl⟩⟩
          unfold rfs; rw [if_pos (by omega)]
  · skip
    refine st_if_eq 14 dX6_refusalOf_4 (by decide) (fun h4 => ?_) (fun h4 => ?_)
    · skip
      refine st_iconst dX6_refusalOf_14 (by decide) ?_
      refine st_ireturn dX6_refusalOf_15 rfl ⟨_, rfl, ⟨?_, rfl⟩⟩
      unfold rfs; rw [if_pos (by omega)]
    · skip
      exact absurd rfl h4
def lwb (la x : Int) : Int := if la = 0 then (Int32.ofInt (Int32.ofInt x).toInt).toInt8.toInt32.toInt else if la = 1 then (Int32.ofInt (Int32.ofInt x).toInt).toInt16.toInt32.toInt else if la = 2 then (Int32.ofInt x).toInt else x
set_option maxHeartbeats 4000000 in
set_option maxRecDepth 100000 in
theorem c_lowestBits {g : fG} {M : fM} {la x : Int} (hla : la = 0 ∨ la = 1 ∨ la = 2 ∨ la = 3) :
    fCl g Y_X6_lowestBits [vi la, vl x] M (fun z M' => z = lwb la x ∧ M' = M) := by
  refine fCl_of _ [some (vi la), some (vl x), none] (by decide) (Nat.le_of_ble_eq_true rfl) rfl (fun h => h) ?_
  refine st_iload_n dX6_lowestBits_0 rfl ?_
  rcases hla with rfl | rfl | rfl | rfl
  · skip
    refine st_tableIn 28 dX6_lowestBits_1 (by decide) (by decide) rfl (by decide) ?_
    refine st_lload_n dX6_lowestBits_28 rfl ?_
    refine st_l2iw dX6_lowestBits_29 ?_
    refine st_i2b dX6_lowestBits_30 ?_
    refine st_i2l dX6_lowestBits_31 ?_
    refine st_lreturn dX6_lowestBits_32 rfl ⟨_, rfl, ⟨rfl, rfl⟩⟩
  · skip
    refine st_tableIn 33 dX6_lowestBits_1 (by decide) (by decide) rfl (by decide) ?_
    refine st_lload_n dX6_lowestBits_33 rfl ?_
    refine st_l2iw dX6_lowestBits_34 ?_
    refine st_i2s dX6_lowestBits_35 ?_
    refine st_i2l dX6_lowestBits_36 ?_
    refine st_lreturn dX6_lowestBits_37 rfl ⟨_, rfl, ⟨rfl, rfl⟩⟩
  · skip
    refine st_tableIn 38 dX6_lowestBits_1 (by decide) (by decide) rfl (by decide) ?_
    refine st_lload_n dX6_lowestBits_38 rfl ?_
    refine st_l2iw dX6_lowestBits_39 ?_
    refine st_i2l dX6_lowestBits_40 ?_
    refine st_lreturn dX6_lowestBits_41 rfl ⟨_, rfl, ⟨rfl, rfl⟩⟩
  · skip
    refine st_tableOut 42 dX6_lowestBits_1 (by decide) (by decide) ?_
    refine st_lload_n dX6_lowestBits_42 rfl ?_
    refine st_lreturn dX6_lowestBits_43 rfl ⟨_, rfl, ⟨rfl, rfl⟩⟩
