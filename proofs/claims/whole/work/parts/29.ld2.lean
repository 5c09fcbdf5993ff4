/-! ===== corners, rank, solutions, the law ===== -/
def xOk (M : fM) (w : Nat) (p : Int) : Prop := M 1 0 0 = p ∧ pOk p ∧ sOk M 0 w p ∧ gI M
theorem xOk_S {M M' : fM} {w : Nat} {p : Int} (h : xOk M w p) (hs : gS M M') (hg : gI M') : xOk M' w p := ⟨by rw [hs 1 0 0 (by decide) (by decide) (by decide) (by decide)]; exact h.1, h.2.1, sOk_S hs h.2.2.1, hg⟩
theorem gI_w {p : Int} {M : fM} {f a0 : Nat → Int} {C : Nat → Nat → Int} (h : gOk p (wG M p f)) : gI (wC (wA (wG M p f) a0) C) := ⟨p, gOk_w (gOk_A h)⟩
theorem eM_rng {M : fM} {i w : Nat} {p : Int} (hp : pOk p) (hs : sOk M i w p) {a b : Nat} (ha : a < w) (hb : b < w) : 0 ≤ eM M i w p a b ∧ eM M i w p a b < p := ent_rng (by have := hp.1; omega) hs.2.2.2.1 ha hb
set_option maxHeartbeats 4000000 in
set_option maxRecDepth 100000 in
theorem c_cornerOf {g : fG} {M : fM} {i w n : Nat} {p : Int} (hp : M 1 0 0 = p) (hpk : pOk p) (hs : sOk M i w p) (hg : gI M) (hn : n ≤ w) :
    fCi g Y_X6_cornerOf [vr 0 0, vr 2 i, vi (n : Int)] M (fun z M' => z = dt n (eM M i w p) % p ∧ gS M M' ∧ gI M') := by
  have hw1 := hs.2.1
  refine fCi_of _ [some (vr 0 0), some (vr 2 i), some (vi (n : Int))] (by decide) (Nat.le_of_ble_eq_true rfl) rfl (fun h => h) ?_
  refine st_aload_n dX6_cornerOf_0 rfl ?_
  refine st_getr (i' := 0) dX6_cornerOf_1 fl_X6_33 rfl rfl rfl (fun _ => by decide) ?_
  refine st_aload_n dX6_cornerOf_4 rfl ?_
  refine st_aload_n dX6_cornerOf_5 rfl ?_
  refine st_getr (i' := 0) dX6_cornerOf_6 fl_X6_12 rfl rfl rfl (fun _ => by decide) ?_
  refine st_get dX6_cornerOf_9 fl_X6_72 rfl rfl rfl ?_
  refine fAt_v (x' := p) hp ?_
  refine st_iload_n dX6_cornerOf_12 rfl ?_
  refine st_callVv [vr 2 i, vi p, vi (n : Int)] [] dX6_cornerOf_13 vl_X6_182 rfl rfl rfl rfl (Nat.le_of_ble_eq_true rfl) (by decide) (c_fill hg.choose_spec hpk hs hn) (fun M1 q1 => ?_)
  obtain ⟨f, C1, rfl, hg1, hC1⟩ := q1
  refine st_aload_n dX6_cornerOf_16 rfl ?_
  refine st_getr (i' := 0) dX6_cornerOf_17 fl_X6_33 rfl rfl rfl (fun _ => by decide) ?_
  refine st_iload_n dX6_cornerOf_20 rfl ?_
  refine st_callVi [vi (n : Int)] [] dX6_cornerOf_21 vl_X6_288 rfl rfl rfl rfl (Nat.le_of_ble_eq_true rfl) (by decide) (c_determinant hg1 (by omega) (fun a b ha hb => by rw [hC1 a b ha hb]; exact eM_rng hpk hs (by omega) (by omega))) (fun z M2 q2 => ?_)
  obtain ⟨rfl, C2, rfl⟩ := q2
  refine st_ireturn dX6_cornerOf_24 rfl ⟨_, rfl, ⟨by rw [dt_congr (fun a b ha hb => hC1 a b ha hb)], gS_w, p, gOk_w hg1⟩⟩
set_option maxHeartbeats 4000000 in
set_option maxRecDepth 100000 in
theorem c_wholeCorner {g : fG} {M : fM} {w : Nat} {p : Int} (hx : xOk M w p) :
    fCi g Y_X6_wholeCorner [vr 0 0] M (fun z M' => z = dt w (eM M 0 w p) % p ∧ gS M M' ∧ gI M') := by
  have hw1 := hx.2.2.1.2.1
  have hp2 := hx.2.1.1
  refine fCi_of _ [some (vr 0 0)] (by decide) (Nat.le_of_ble_eq_true rfl) rfl (fun h => h) ?_
  refine st_aload_n dX6_wholeCorner_0 rfl ?_
  refine st_aload_n dX6_wholeCorner_1 rfl ?_
  refine st_getr (i' := 0) dX6_wholeCorner_2 fl_X6_12 rfl rfl rfl (fun _ => by decide) ?_
  refine st_getr (i' := 0) dX6_wholeCorner_5 fl_X6_76 rfl rfl rfl (fun _ => by decide) ?_
  refine st_aload_n dX6_wholeCorner_8 rfl ?_
  refine st_getr (i' := 0) dX6_wholeCorner_9 fl_X6_12 rfl rfl rfl (fun _ => by decide) ?_
  refine st_getr (i' := 0) dX6_wholeCorner_12 fl_X6_76 rfl rfl rfl (fun _ => by decide) ?_
  refine st_get dX6_wholeCorner_15 fl_X6_106 rfl rfl rfl ?_
  refine fAt_v (x' := (w : Int)) hx.2.2.1.1 ?_
  refine st_callVi [vr 2 0, vi (w : Int)] [] dX6_wholeCorner_18 vl_X6_167 rfl rfl rfl rfl (Nat.le_of_ble_eq_true rfl) (by decide) (c_cornerOf hx.1 hx.2.1 hx.2.2.1 hx.2.2.2 (Nat.le_refl w)) (fun z M1 q1 => ?_)
  refine st_ireturn dX6_wholeCorner_21 rfl ⟨_, rfl, q1⟩
/-- a set of bits, as the machine makes it -/
def sst (f : Nat → Int) : Nat → Int
  | 0 => 0
  | n + 1 => (Int32.ofInt (sst f n) ||| Int32.ofInt (if f (n + 1) = 0 then (Int32.ofInt 1 <<< (Int32.ofInt ((n : Int) + 1) &&& 31)).toInt else 0)).toInt
set_option maxHeartbeats 4000000 in
set_option maxRecDepth 100000 in
theorem singularCorners_l {g : fG} {M : fM} {w : Nat} {p : Int} (hx : xOk M w p) :
    ∀ (n c : Nat) (N : fM), c + n = w → gS M N → gI N → fAt g Y_X6_singularCorners 4 [some (vr 0 0), some (vi (sst (fun k => dt k (eM M 0 w p) % p) c)), some (vi ((c : Int) + 1))] [] N (fI (fun z M' => z = sst (fun k => dt k (eM M 0 w p) % p) w ∧ gS M M' ∧ gI M')) := by
  have hw1 := hx.2.2.1.2.1
  intro n
  induction n with
  | zero =>
    intro c N hn hS hG
    have hx1 := xOk_S hx hS hG
    have e : c = w := by omega
    subst e
    refine st_iload_n dX6_singularCorners_4 rfl ?_
    refine st_aload_n dX6_singularCorners_5 rfl ?_
    refine st_getr (i' := 0) dX6_singularCorners_6 fl_X6_12 rfl rfl rfl (fun _ => by decide) ?_
    refine st_getr (i' := 0) dX6_singularCorners_9 fl_X6_76 rfl rfl rfl (fun _ => by decide) ?_
    refine st_get dX6_singularCorners_12 fl_X6_106 rfl rfl rfl ?_
    refine fAt_v (x' := (c : Int)) hx1.2.2.1.1 ?_
    refine st_icmp_gt 49 dX6_singularCorners_15 (by decide) (fun h15 => ?_) (fun h15 => ?_)
    · skip
      refine st_iload_n dX6_singularCorners_49 rfl ?_
      refine st_ireturn dX6_singularCorners_50 rfl ⟨_, rfl, ⟨rfl, hS, hG⟩⟩
    · skip
      exact absurd h15 (by omega)
  | succ n ih =>
    intro c N hn hS hG
    have hx1 := xOk_S hx hS hG
    refine st_iload_n dX6_singularCorners_4 rfl ?_
    refine st_aload_n dX6_singularCorners_5 rfl ?_
    refine st_getr (i' := 0) dX6_singularCorners_6 fl_X6_12 rfl rfl rfl (fun _ => by decide) ?_
    refine st_getr (i' := 0) dX6_singularCorners_9 fl_X6_76 rfl rfl rfl (fun _ => by decide) ?_
    refine st_get dX6_singularCorners_12 fl_X6_106 rfl rfl rfl ?_
    refine fAt_v (x' := (w : Int)) hx1.2.2.1.1 ?_
    refine st_icmp_gt 49 dX6_singularCorners_15 (by decide) (fun h15 => ?_) (fun h15 => ?_)
    · skip
      exact absurd h15 (by omega)
    · skip
      refine st_iload_n dX6_singularCorners_18 rfl ?_
      refine st_aload_n dX6_singularCorners_19 rfl ?_
      refine st_aload_n dX6_singularCorners_20 rfl ?_
      refine st_getr (i' := 0) dX6_singularCorners_21 fl_X6_12 rfl rfl rfl (fun _ => by decide) ?_
      refine st_getr (i' := 0) dX6_singularCorners_24 fl_X6_76 rfl rfl rfl (fun _ => by decide) ?_
      refine st_iload_n dX6_singularCorners_27 rfl ?_
      refine st_callVi [vr 2 0, vi ((c : Int) + 1)] [vi (sst (fun k => dt k (eM M 0 w p) % p) c)] dX6_singularCorners_28 vl_X6_167 rfl rfl rfl rfl (Nat.le_of_ble_eq_true rfl) (by decide) (c_cornerOf (n := c + 1) hx1.1 hx1.2.1 hx1.2.2.1 hx1.2.2.2 (by omega)) (fun z M3 q1 => ?_)
      obtain ⟨rfl, hS2, hG2⟩ := q1
      rw [eM_S hS]
      refine st_if_ne 40 dX6_singularCorners_31 (by decide) (fun h31 => ?_) (fun h31 => ?_)
      · skip
        have hz := h31
        refine st_iconst dX6_singularCorners_40 (by decide) ?_
        refine st_ior dX6_singularCorners_41 ?_
        refine st_istore_n (ls' := [some (vr 0 0), some (vi (Int32.ofInt (sst (fun k => dt k (eM M 0 w p) % p) c) ||| Int32.ofInt 0).toInt), some (vi ((c : Int) + 1))]) dX6_singularCorners_42 (by decide) rfl rfl ?_
        refine st_iinc (ls' := [some (vr 0 0), some (vi (Int32.ofInt (sst (fun k => dt k (eM M 0 w p) % p) c) ||| Int32.ofInt 0).toInt), some (vi (((c : Int) + 1) + 1))]) dX6_singularCorners_43 rfl (by omega) (by decide) rfl rfl ?_
        refine st_goto 4 dX6_singularCorners_46 (by decide) ?_
        refine fAt_ls (ls' := [some (vr 0 0), some (vi (sst (fun k => dt k (eM M 0 w p) % p) (c + 1))), some (vi (((c + 1 : Nat) : Int) + 1))]) (by
          first
          | (show _ = [some (vr 0 0), some (vi (Int32.ofInt (sst (fun k => dt k (eM M 0 w p) % p) c) ||| Int32.ofInt (if dt (c + 1) (eM M 0 w p) % p = 0 then (Int32.ofInt 1 <<< (Int32.ofInt ((c : Int) + 1) &&& 31)).toInt else 0)).toInt), some (vi (((c + 1 : Nat) : Int) + 1))]; rw [if_pos hz]; rfl)
          | (show _ = [some (vr 0 0), some (vi (Int32.ofInt (sst (fun k => dt k (eM M 0 w p) % p) c) ||| Int32.ofInt (if dt (c + 1) (eM M 0 w p) % p = 0 then (Int32.ofInt 1 <<< (Int32.ofInt ((c : Int) + 1) &&& 31)).toInt else 0)).toInt), some (vi (((c + 1 : Nat) : Int) + 1))]; rw [if_neg hz]; rfl)) ?_
        exact ih (c + 1) M3 (by omega) (gS_t hS hS2) hG2
      · skip
        have hz := h31
        refine st_iconst dX6_singularCorners_34 (by decide) ?_
        refine st_iload_n dX6_singularCorners_35 rfl ?_
        refine st_ishl dX6_singularCorners_36 ?_
        refine st_goto 41 dX6_singularCorners_37 (by decide) ?_
        refine st_ior dX6_singularCorners_41 ?_
        refine st_istore_n (ls' := [some (vr 0 0), some (vi (Int32.ofInt (sst (fun k => dt k (eM M 0 w p) % p) c) ||| Int32.ofInt (Int32.ofInt 1 <<< (Int32.ofInt ((c : Int) + 1) &&& 31)).toInt).toInt), some (vi ((c : Int) + 1))]) dX6_singularCorners_42 (by decide) rfl rfl ?_
        refine st_iinc (ls' := [some (vr 0 0), some (vi (Int32.ofInt (sst (fun k => dt k (eM M 0 w p) % p) c) ||| Int32.ofInt (Int32.ofInt 1 <<< (Int32.ofInt ((c : Int) + 1) &&& 31)).toInt).toInt), some (vi (((c : Int) + 1) + 1))]) dX6_singularCorners_43 rfl (by omega) (by decide) rfl rfl ?_
        refine st_goto 4 dX6_singularCorners_46 (by decide) ?_
        refine fAt_ls (ls' := [some (vr 0 0), some (vi (sst (fun k => dt k (eM M 0 w p) % p) (c + 1))), some (vi (((c + 1 : Nat) : Int) + 1))]) (by
          first
          | (show _ = [some (vr 0 0), some (vi (Int32.ofInt (sst (fun k => dt k (eM M 0 w p) % p) c) ||| Int32.ofInt (if dt (c + 1) (eM M 0 w p) % p = 0 then (Int32.ofInt 1 <<< (Int32.ofInt ((c : Int) + 1) &&& 31)).toInt else 0)).toInt), some (vi (((c + 1 : Nat) : Int) + 1))]; rw [if_pos hz]; rfl)
          | (show _ = [some (vr 0 0), some (vi (Int32.ofInt (sst (fun k => dt k (eM M 0 w p) % p) c) ||| Int32.ofInt (if dt (c + 1) (eM M 0 w p) % p = 0 then (Int32.ofInt 1 <<< (Int32.ofInt ((c : Int) + 1) &&& 31)).toInt else 0)).toInt), some (vi (((c + 1 : Nat) : Int) + 1))]; rw [if_neg hz]; rfl)) ?_
        exact ih (c + 1) M3 (by omega) (gS_t hS hS2) hG2
set_option maxHeartbeats 4000000 in
set_option maxRecDepth 100000 in
theorem c_singularCorners {g : fG} {M : fM} {w : Nat} {p : Int} (hx : xOk M w p) :
    fCi g Y_X6_singularCorners [vr 0 0] M (fun z M' => z = sst (fun k => dt k (eM M 0 w p) % p) w ∧ gS M M' ∧ gI M') := by
  have hw1 := hx.2.2.1.2.1
  have hp2 := hx.2.1.1
  refine fCi_of _ [some (vr 0 0), none, none] (by decide) (Nat.le_of_ble_eq_true rfl) rfl (fun h => h) ?_
  refine st_iconst dX6_singularCorners_0 (by decide) ?_
  refine st_istore_n (ls' := [some (vr 0 0), some (vi 0), none]) dX6_singularCorners_1 (by decide) rfl rfl ?_
  refine st_iconst dX6_singularCorners_2 (by decide) ?_
  refine st_istore_n (ls' := [some (vr 0 0), some (vi 0), some (vi 1)]) dX6_singularCorners_3 (by decide) rfl rfl ?_
  exact singularCorners_l hx w 0 M (by omega) (gS_r M) hx.2.2.2
def aug (E : Nat → Nat → Int) (w : Nat) (s : Nat → Int) : Nat → Nat → Int := fun i j => if j < w then E i j else s i
theorem wA_in (M : fM) (C : Nat → Nat → Int) : wC M C = wC (wA M (M 11 0)) C := by rw [wA_self]
theorem aug_rng {E : Nat → Nat → Int} {w : Nat} {s : Nat → Int} {p : Int} (hE : ∀ a b, a < w → b < w → 0 ≤ E a b ∧ E a b < p) (hs : ∀ a, a < w → 0 ≤ s a ∧ s a < p) : ∀ a b, a < w → b < w + 1 → 0 ≤ aug E w s a b ∧ aug E w s a b < p := by
  intro a b ha hb
  unfold aug
  split
  · exact hE a b ha (by assumption)
  · exact hs a ha
theorem aug_sol0 {p : Int} {w : Nat} {E : Nat → Nat → Int} : ∃ x, Ev 1 p w w (aug E w (fun _ => 0)) x := ⟨fun _ => 0, fun r hr => by
  unfold lf
  rw [sm_zero (fun i _ => Int.mul_zero _)]
  show (0 - 1 * (if w < w then E r w else 0)) % p = 0
  rw [if_neg (by omega)]
  exact Int.zero_emod p⟩
set_option maxHeartbeats 4000000 in
set_option maxRecDepth 100000 in
theorem c_rankOfMatrix {g : fG} {M : fM} {w : Nat} {p : Int} (hx : xOk M w p) :
    fCi g Y_X6_rankOfMatrix [vr 0 0] M (fun z M' => (∃ k a, z = ((k : Nat) : Int) ∧ LSpec p w w (aug (eM M 0 w p) w (fun _ => 0)) True k a) ∧ gS M M' ∧ gI M') := by
  have hw1 := hx.2.2.1.2.1
  have hp2 := hx.2.1.1
  refine fCi_of _ [some (vr 0 0), none] (by decide) (Nat.le_of_ble_eq_true rfl) rfl (fun h => h) ?_
  refine st_aload_n dX6_rankOfMatrix_0 rfl ?_
  refine st_getr (i' := 0) dX6_rankOfMatrix_1 fl_X6_12 rfl rfl rfl (fun _ => by decide) ?_
  refine st_getr (i' := 0) dX6_rankOfMatrix_4 fl_X6_76 rfl rfl rfl (fun _ => by decide) ?_
  refine st_get dX6_rankOfMatrix_7 fl_X6_106 rfl rfl rfl ?_
  refine fAt_v (x' := (w : Int)) hx.2.2.1.1 ?_
  refine st_istore_n (ls' := [some (vr 0 0), some (vi (w : Int))]) dX6_rankOfMatrix_10 (by decide) rfl rfl ?_
  refine st_aload_n dX6_rankOfMatrix_11 rfl ?_
  refine st_getr (i' := 0) dX6_rankOfMatrix_12 fl_X6_33 rfl rfl rfl (fun _ => by decide) ?_
  refine st_aload_n dX6_rankOfMatrix_15 rfl ?_
  refine st_getr (i' := 0) dX6_rankOfMatrix_16 fl_X6_12 rfl rfl rfl (fun _ => by decide) ?_
  refine st_getr (i' := 0) dX6_rankOfMatrix_19 fl_X6_76 rfl rfl rfl (fun _ => by decide) ?_
  refine st_aload_n dX6_rankOfMatrix_22 rfl ?_
  refine st_getr (i' := 0) dX6_rankOfMatrix_23 fl_X6_12 rfl rfl rfl (fun _ => by decide) ?_
  refine st_get dX6_rankOfMatrix_26 fl_X6_72 rfl rfl rfl ?_
  refine fAt_v (x' := p) hx.1 ?_
  refine st_iload_n dX6_rankOfMatrix_29 rfl ?_
  refine st_callVv [vr 2 0, vi p, vi (w : Int)] [] dX6_rankOfMatrix_30 vl_X6_182 rfl rfl rfl rfl (Nat.le_of_ble_eq_true rfl) (by decide) (c_fill hx.2.2.2.choose_spec hx.2.1 hx.2.2.1 (Nat.le_refl w)) (fun M1 q1 => ?_)
  obtain ⟨f, C1, rfl, hg1, hC1⟩ := q1
  refine st_aload_n dX6_rankOfMatrix_33 rfl ?_
  refine st_getr (i' := 0) dX6_rankOfMatrix_34 fl_X6_33 rfl rfl rfl (fun _ => by decide) ?_
  refine st_iload_n dX6_rankOfMatrix_37 rfl ?_
  refine st_iload_n dX6_rankOfMatrix_38 rfl ?_
  refine st_callVv [vi (w : Int), vi (w : Int)] [] dX6_rankOfMatrix_39 vl_X6_291 rfl rfl rfl rfl (Nat.le_of_ble_eq_true rfl) (by decide) (c_clearColumn (by omega) (by omega)) (fun M2 q2 => ?_)
  subst q2
  refine fAt_m (wA_in _ _) ?_
  refine st_aload_n dX6_rankOfMatrix_42 rfl ?_
  refine st_getr (i' := 0) dX6_rankOfMatrix_43 fl_X6_33 rfl rfl rfl (fun _ => by decide) ?_
  refine st_iload_n dX6_rankOfMatrix_46 rfl ?_
  refine st_iload_n dX6_rankOfMatrix_47 rfl ?_
  have hAr : ∀ i j, i < w → j < w + 1 → 0 ≤ zC C1 w w i j ∧ zC C1 w w i j < p := by
    intro i j hi hj
    unfold zC
    by_cases e : j < w
    · rw [if_neg (by omega), hC1 i j hi e]; exact eM_rng hx.2.1 hx.2.2.1 hi e
    · rw [if_pos ⟨hi, by omega⟩]; omega
  refine st_callVi [vi (w : Int), vi (w : Int)] [] dX6_rankOfMatrix_48 vl_X6_190 rfl rfl rfl rfl (Nat.le_of_ble_eq_true rfl) (by decide) (c_solveLeast (p := p) (a := (wG M p f) 11 0) hg1 (by omega) (by omega) hAr) (fun z M3 q3 => ?_)
  obtain ⟨C3, a3, k3, rfl, q3⟩ := q3
  refine st_ireturn dX6_rankOfMatrix_51 rfl ⟨_, rfl, ?_⟩
  have hA : ∀ i j, i < w → j ≤ w → zC C1 w w i j = aug (eM M 0 w p) w (fun _ => 0) i j := by
    intro i j hi hj
    unfold zC aug
    by_cases e : j < w
    · rw [if_neg (by omega), if_pos e]; exact hC1 i j hi e
    · rw [if_pos ⟨hi, by omega⟩, if_neg e]
  rcases q3 with ⟨-, hL⟩ | ⟨rfl, hL⟩
  · exact absurd ((LSpec_congr hA hL).2.1.mpr aug_sol0) id
  · exact ⟨⟨k3, a3, rfl, LSpec_congr hA hL⟩, gS_wa, gI_w hg1⟩
/-- how many solutions, and the first one -/
def SolZ (p : Int) (w : Nat) (A : Nat → Nat → Int) (z : Int) (a : Nat → Int) : Prop := ∃ k, (z = 0 ∧ LSpec p w w A False k a) ∨ (z = p ^ (w - k) ∧ LSpec p w w A True k a)
theorem p97 : ∀ e : Fin 9, (97 : Int) ^ e.val ≤ 9223372036854775807 := by decide
theorem pow_r64 {x : Int} {e : Nat} (hx : 0 ≤ x ∧ x ≤ 97) (he : e ≤ 8) : R64 (x ^ e) := by
  have h1 := pow_b hx he
  have h2 := p97 ⟨e, by omega⟩
  have h2 : (97 : Int) ^ e ≤ 9223372036854775807 := h2
  exact ⟨by omega, by omega⟩
theorem pw_pos {p : Int} (hp : 2 ≤ p) : ∀ n : Nat, 1 ≤ p ^ n
  | 0 => by rw [Int.pow_zero]; decide
  | n + 1 => by
    rw [Int.pow_succ]
    have := mulb (x := 1) (y := 1) (a := p ^ n) (b := p) (by decide) (by decide) (pw_pos hp n) (by omega)
    omega
theorem SolZ_one {p : Int} {w : Nat} {A : Nat → Nat → Int} {z z' : Int} {a a' : Nat → Int} (hp : 2 ≤ p) (h : SolZ p w A z a) (h' : SolZ p w A z' a') : z = z' ∧ (z ≠ 0 → ∀ c, c < w → a c = a' c) := by
  obtain ⟨k, h⟩ := h
  obtain ⟨k', h'⟩ := h'
  rcases h with ⟨rfl, h⟩ | ⟨rfl, h⟩ <;> rcases h' with ⟨rfl, h'⟩ | ⟨rfl, h'⟩
  · exact ⟨rfl, fun q => absurd rfl q⟩
  · exact absurd ((LSpec_one h h').1.mpr trivial) id
  · exact absurd ((LSpec_one h h').1.mp trivial) id
  · obtain ⟨-, e, q⟩ := LSpec_one h h'
    subst e
    exact ⟨rfl, fun _ => q trivial⟩
def sC (C : Nat → Nat → Int) (w : Nat) (s : Nat → Int) (n : Nat) : Nat → Nat → Int := fun i j => if i < n ∧ j = w then s i else C i j
theorem sC_0 (C : Nat → Nat → Int) (w : Nat) (s : Nat → Int) : sC C w s 0 = C := by
  funext i j
  unfold sC
  rw [if_neg (by omega)]
theorem sC_s (C : Nat → Nat → Int) (w : Nat) (s : Nat → Int) (n : Nat) : (fun i j => if i = n ∧ j = w then s n else sC C w s n i j) = sC C w s (n + 1) := by
  funext i j
  simp only [sC]
  grind (splits := 30)
set_option maxHeartbeats 4000000 in
set_option maxRecDepth 100000 in
theorem solveMatrix_l {g : fG} {M : fM} {w : Nat} {p : Int} (hx : xOk M w p) {f : Nat → Int} {C1 : Nat → Nat → Int} (hg1 : gOk p (wG M p f)) (hC1 : ∀ a b, a < w → b < w → C1 a b = eM M 0 w p a b) :
    ∀ (n r : Nat), r + n = w → fAt g Y_X6_solveMatrix 35 [some (vr 0 0), some (vi (w : Int)), some (vi (r : Int))] [] (wC (wG M p f) (sC C1 w (M 4 0) r)) (fL (fun z M' => ∃ a, SolZ p w (aug (eM M 0 w p) w (M 4 0)) z a ∧ (∀ c, c < w → M' 11 0 c = a c) ∧ gS M M' ∧ gI M')) := by
  have hw1 := hx.2.2.1.2.1
  have hp2 := hx.2.1.1
  intro n
  induction n with
  | zero =>
    intro r hn
    have e : r = w := by omega
    subst r
    refine st_iload_n dX6_solveMatrix_35 rfl ?_
    refine st_iload_n dX6_solveMatrix_36 rfl ?_
    refine st_icmp_ge 69 dX6_solveMatrix_37 (by decide) (fun h37 => ?_) (fun h37 => ?_)
    · skip
      have hA : ∀ i j, i < w → j ≤ w → sC C1 w (M 4 0) w i j = aug (eM M 0 w p) w (M 4 0) i j := by
        intro i j hi hj
        unfold sC aug
        by_cases e : j < w
        · rw [if_neg (by omega), if_pos e]; exact hC1 i j hi e
        · rw [if_pos ⟨hi, by omega⟩, if_neg e]
      have hAr : ∀ i j, i < w → j < w + 1 → 0 ≤ sC C1 w (M 4 0) w i j ∧ sC C1 w (M 4 0) w i j < p := by
        intro i j hi hj
        rw [hA i j hi (by omega)]
        exact aug_rng (fun a b ha hb => eM_rng hx.2.1 hx.2.2.1 ha hb) hx.2.2.1.2.2.2.2.1 i j hi hj
      refine fAt_m (wA_in _ _) ?_
      refine st_aload_n dX6_solveMatrix_69 rfl ?_
      refine st_getr (i' := 0) dX6_solveMatrix_70 fl_X6_33 rfl rfl rfl (fun _ => by decide) ?_
      refine st_iload_n dX6_solveMatrix_73 rfl ?_
      refine st_iload_n dX6_solveMatrix_74 rfl ?_
      refine st_callVi [vi (w : Int), vi (w : Int)] [] dX6_solveMatrix_75 vl_X6_190 rfl rfl rfl rfl (Nat.le_of_ble_eq_true rfl) (by decide) (c_solveLeast (p := p) (a := (wG M p f) 11 0) hg1 (by omega) (by omega) hAr) (fun z M3 q3 => ?_)
      obtain ⟨C3, a3, k3, rfl, q3⟩ := q3
      rcases q3 with ⟨rfl, hL⟩ | ⟨rfl, hL⟩
      · skip
        refine st_istore_n (ls' := [some (vr 0 0), some (vi (w : Int)), some (vi (-1))]) dX6_solveMatrix_78 (by decide) rfl rfl ?_
        refine st_iload_n dX6_solveMatrix_79 rfl ?_
        refine st_if_ge 87 dX6_solveMatrix_80 (by decide) (fun h80 => ?_) (fun h80 => ?_)
        · skip
          exact absurd h80 (by omega)
        · skip
          refine st_lconst0 dX6_solveMatrix_83 ?_
          refine st_goto 101 dX6_solveMatrix_84 (by decide) ?_
          refine st_lreturn dX6_solveMatrix_101 rfl ⟨_, rfl, ?_⟩
          first
          | exact ⟨a3, ⟨k3, Or.inl ⟨rfl, LSpec_congr hA hL⟩⟩, fun c hc => wA_at _ _ _ _, gS_wa, gI_w hg1⟩
          | exact ⟨a3, ⟨k3, Or.inr ⟨rfl, LSpec_congr hA hL⟩⟩, fun c hc => wA_at _ _ _ _, gS_wa, gI_w hg1⟩
      · skip
        have hk3 := LSpec_le hL
        refine st_istore_n (ls' := [some (vr 0 0), some (vi (w : Int)), some (vi (k3 : Int))]) dX6_solveMatrix_78 (by decide) rfl rfl ?_
        refine st_iload_n dX6_solveMatrix_79 rfl ?_
        refine st_if_ge 87 dX6_solveMatrix_80 (by decide) (fun h80 => ?_) (fun h80 => ?_)
        · skip
          refine st_aload_n dX6_solveMatrix_87 rfl ?_
          refine st_getr (i' := 0) dX6_solveMatrix_88 fl_X6_12 rfl rfl rfl (fun _ => by decide) ?_
          refine st_get dX6_solveMatrix_91 fl_X6_72 rfl rfl rfl ?_
          refine fAt_v (x' := p) hx.1 ?_
          refine st_i2l dX6_solveMatrix_94 ?_
          refine st_iload_n dX6_solveMatrix_95 rfl ?_
          refine st_iload_n dX6_solveMatrix_96 rfl ?_
          refine st_isub dX6_solveMatrix_97 (by omega) ?_
          refine fAt_v (x' := ((w - k3 : Nat) : Int)) (by omega) ?_
          refine st_callSl [vl p, vi (((w - k3) : Nat) : Int)] [] dX6_solveMatrix_98 sl_X6_225 rfl rfl (Nat.le_of_ble_eq_true rfl) (by decide) (c_power (n := w - k3) (by omega) (fun e he => pow_r64 (by omega) (by omega))) (fun z2 M4 q4 => ?_)
          obtain ⟨rfl, rfl⟩ := q4
          refine st_lreturn dX6_solveMatrix_101 rfl ⟨_, rfl, ?_⟩
          first
          | exact ⟨a3, ⟨k3, Or.inl ⟨rfl, LSpec_congr hA hL⟩⟩, fun c hc => wA_at _ _ _ _, gS_wa, gI_w hg1⟩
          | exact ⟨a3, ⟨k3, Or.inr ⟨rfl, LSpec_congr hA hL⟩⟩, fun c hc => wA_at _ _ _ _, gS_wa, gI_w hg1⟩
        · skip
          exact absurd h80 (by omega)
    · skip
      exact absurd h37 (by omega)
  | succ n ih =>
    intro r hn
    refine st_iload_n dX6_solveMatrix_35 rfl ?_
    refine st_iload_n dX6_solveMatrix_36 rfl ?_
    refine st_icmp_ge 69 dX6_solveMatrix_37 (by decide) (fun h37 => ?_) (fun h37 => ?_)
    · skip
      exact absurd h37 (by omega)
    · skip
      refine st_aload_n dX6_solveMatrix_40 rfl ?_
      refine st_getr (i' := 0) dX6_solveMatrix_41 fl_X6_33 rfl rfl rfl (fun _ => by decide) ?_
      refine st_getr (i' := 0) dX6_solveMatrix_44 fl_X6_186 rfl rfl rfl (fun _ => by decide) ?_
      refine st_iload_n dX6_solveMatrix_47 rfl ?_
      refine st_aald (j := r) (i' := r) dX6_solveMatrix_48 rfl rfl rfl rfl ⟨_, rfl, rfl⟩ rfl (show r < 11 from by omega) rfl (fun _ => show r < 11 from by omega) ?_
      refine st_iload_n dX6_solveMatrix_49 rfl ?_
      refine st_aload_n dX6_solveMatrix_50 rfl ?_
      refine st_getr (i' := 0) dX6_solveMatrix_51 fl_X6_12 rfl rfl rfl (fun _ => by decide) ?_
      refine st_getr (i' := 0) dX6_solveMatrix_54 fl_X6_76 rfl rfl rfl (fun _ => by decide) ?_
      refine st_getr (i' := 0) dX6_solveMatrix_57 fl_X6_118 rfl rfl rfl (fun _ => by decide) ?_
      refine st_iload_n dX6_solveMatrix_60 rfl ?_
      refine st_iald (j := r) dX6_solveMatrix_61 rfl rfl rfl rfl (by omega) ?_
      refine fAt_v (x' := M 4 0 r) rfl ?_
      refine st_iast (j := w) dX6_solveMatrix_62 rfl rfl rfl rfl (by omega) ?_
      refine fAt_m (wC_up _ _ _ _ _) ?_
      refine fAt_m (congrArg (wC (wG M p f)) (sC_s C1 w (M 4 0) r)) ?_
      refine st_iinc (ls' := [some (vr 0 0), some (vi (w : Int)), some (vi ((r : Int) + 1))]) dX6_solveMatrix_63 rfl (by omega) (by decide) rfl rfl ?_
      refine st_goto 35 dX6_solveMatrix_66 (by decide) ?_
      exact ih (r + 1) (by omega)
set_option maxHeartbeats 4000000 in
set_option maxRecDepth 100000 in
theorem c_solveMatrix {g : fG} {M : fM} {w : Nat} {p : Int} (hx : xOk M w p) :
    fCl g Y_X6_solveMatrix [vr 0 0] M (fun z M' => ∃ a, SolZ p w (aug (eM M 0 w p) w (M 4 0)) z a ∧ (∀ c, c < w → M' 11 0 c = a c) ∧ gS M M' ∧ gI M') := by
  have hw1 := hx.2.2.1.2.1
  have hp2 := hx.2.1.1
  refine fCl_of _ [some (vr 0 0), none, none] (by decide) (Nat.le_of_ble_eq_true rfl) rfl (fun h => h) ?_
  refine st_aload_n dX6_solveMatrix_0 rfl ?_
  refine st_getr (i' := 0) dX6_solveMatrix_1 fl_X6_12 rfl rfl rfl (fun _ => by decide) ?_
  refine st_getr (i' := 0) dX6_solveMatrix_4 fl_X6_76 rfl rfl rfl (fun _ => by decide) ?_
  refine st_get dX6_solveMatrix_7 fl_X6_106 rfl rfl rfl ?_
  refine fAt_v (x' := (w : Int)) hx.2.2.1.1 ?_
  refine st_istore_n (ls' := [some (vr 0 0), some (vi (w : Int)), none]) dX6_solveMatrix_10 (by decide) rfl rfl ?_
  refine st_aload_n dX6_solveMatrix_11 rfl ?_
  refine st_getr (i' := 0) dX6_solveMatrix_12 fl_X6_33 rfl rfl rfl (fun _ => by decide) ?_
  refine st_aload_n dX6_solveMatrix_15 rfl ?_
  refine st_getr (i' := 0) dX6_solveMatrix_16 fl_X6_12 rfl rfl rfl (fun _ => by decide) ?_
  refine st_getr (i' := 0) dX6_solveMatrix_19 fl_X6_76 rfl rfl rfl (fun _ => by decide) ?_
  refine st_aload_n dX6_solveMatrix_22 rfl ?_
  refine st_getr (i' := 0) dX6_solveMatrix_23 fl_X6_12 rfl rfl rfl (fun _ => by decide) ?_
  refine st_get dX6_solveMatrix_26 fl_X6_72 rfl rfl rfl ?_
  refine fAt_v (x' := p) hx.1 ?_
  refine st_iload_n dX6_solveMatrix_29 rfl ?_
  refine st_callVv [vr 2 0, vi p, vi (w : Int)] [] dX6_solveMatrix_30 vl_X6_182 rfl rfl rfl rfl (Nat.le_of_ble_eq_true rfl) (by decide) (c_fill hx.2.2.2.choose_spec hx.2.1 hx.2.2.1 (Nat.le_refl w)) (fun M1 q1 => ?_)
  obtain ⟨f, C1, rfl, hg1, hC1⟩ := q1
  refine st_iconst dX6_solveMatrix_33 (by decide) ?_
  refine st_istore_n (ls' := [some (vr 0 0), some (vi (w : Int)), some (vi 0)]) dX6_solveMatrix_34 (by decide) rfl rfl ?_
  refine fAt_m (congrArg (wC (wG M p f)) (sC_0 C1 w (M 4 0)).symm) ?_
  exact solveMatrix_l hx hg1 hC1 w 0 (by omega)
