set_option maxHeartbeats 4000000 in
set_option maxRecDepth 100000 in
theorem clearOthers_2 {g : fG} {M : fM} {p sc : Int} {C : Nat → Nat → Int} {k c R u : Nat} (hg : gOk p M) (hu : u ≤ 11) (hR : R ≤ 11) (hk : k < R) (hc : c < u) :
    ∀ (n r : Nat) (D : Nat → Nat → Int), r + n = R → clP p R u C k c D → (∀ i, i < R → i < r → i ≠ k → D i c = 0) → fAt g Y_X1_clearOthers 60 [some (vr 8 0), some (vi (k : Int)), some (vi (c : Int)), some (vi (R : Int)), some (vi (u : Int)), some (vi sc), some (vi (r : Int))] [] (wC M D) (fN (fun M' => ∃ D, M' = wC M D ∧ clP p R u C k c D ∧ ∀ i, i < R → i ≠ k → D i c = 0)) := by
  have hp2 := hg.2.1
  intro n
  induction n with
  | zero =>
    intro r D hn hD h0
    have e : r = R := by omega
    subst e
    refine st_iload dX1_clearOthers_60 rfl ?_
    refine st_iload_n dX1_clearOthers_62 rfl ?_
    refine st_icmp_ge 99 dX1_clearOthers_63 (by decide) (fun h63 => ?_) (fun h63 => ?_)
    · skip
      refine st_return dX1_clearOthers_99 rfl ⟨rfl, ⟨D, rfl, hD, fun i h1 h2 => h0 i h1 h1 h2⟩⟩
    · skip
      exact absurd h63 (by omega)
  | succ n ih =>
    intro r D hn hD h0
    refine st_iload dX1_clearOthers_60 rfl ?_
    refine st_iload_n dX1_clearOthers_62 rfl ?_
    refine st_icmp_ge 99 dX1_clearOthers_63 (by decide) (fun h63 => ?_) (fun h63 => ?_)
    · skip
      exact absurd h63 (by omega)
    · skip
      refine st_iload dX1_clearOthers_66 rfl ?_
      refine st_iload_n dX1_clearOthers_68 rfl ?_
      refine st_icmp_eq 93 dX1_clearOthers_69 (by decide) (fun h69 => ?_) (fun h69 => ?_)
      · skip
        have e69 : r = k := by omega
        refine st_iinc (ls' := [some (vr 8 0), some (vi (k : Int)), some (vi (c : Int)), some (vi (R : Int)), some (vi (u : Int)), some (vi sc), some (vi ((r : Int) + 1))]) dX1_clearOthers_93 rfl (by omega) (by decide) rfl rfl ?_
        refine st_goto 60 dX1_clearOthers_96 (by decide) ?_
        exact ih (r + 1) D (by omega) hD (fun i h1 h2 h3 => h0 i h1 (by omega) h3)
      · skip
        have e69 : r ≠ k := by omega
        have hrr := hD.1
        refine st_aload_n dX1_clearOthers_72 rfl ?_
        refine st_iload dX1_clearOthers_73 rfl ?_
        refine st_iload_n dX1_clearOthers_75 rfl ?_
        refine st_aload_n dX1_clearOthers_76 rfl ?_
        refine st_getr (i' := 0) dX1_clearOthers_77 fl_X1_11 rfl rfl rfl (fun _ => by decide) ?_
        refine st_iload dX1_clearOthers_80 rfl ?_
        refine st_aald (j := r) (i' := r) dX1_clearOthers_82 rfl rfl rfl rfl ⟨_, rfl, rfl⟩ rfl (show r < 11 from by omega) rfl (fun _ => show r < 11 from by omega) ?_
        refine st_iload_n dX1_clearOthers_83 rfl ?_
        refine st_iald (j := c) dX1_clearOthers_84 rfl rfl rfl rfl (by omega) ?_
        refine fAt_v (x' := D r c) rfl ?_
        refine st_iconst dX1_clearOthers_85 (by decide) ?_
        refine st_iload dX1_clearOthers_86 rfl ?_
        refine st_iconst dX1_clearOthers_88 (by decide) ?_
        refine st_iadd dX1_clearOthers_89 (by omega) ?_
        refine st_callVv [vi (r : Int), vi (k : Int), vi (D r c), vi 0, vi ((u : Int) + 1)] [] dX1_clearOthers_90 vl_X1_44 rfl rfl rfl rfl (Nat.le_of_ble_eq_true rfl) (by decide) (c_takeAway_w (row := r) (other := k) (a := 0) (b := u + 1) hg (by omega) (by omega) (hrr r c (by omega) (by omega)) (by omega) (by omega) (fun j _ hj => hrr r j (by omega) hj) (fun j _ hj => hrr k j (by omega) hj)) (fun M1 q1 => ?_)
        subst q1
        refine st_iinc (ls' := [some (vr 8 0), some (vi (k : Int)), some (vi (c : Int)), some (vi (R : Int)), some (vi (u : Int)), some (vi sc), some (vi ((r : Int) + 1))]) dX1_clearOthers_93 rfl (by omega) (by decide) rfl rfl ?_
        refine st_goto 60 dX1_clearOthers_96 (by decide) ?_
        refine ih (r + 1) _ (by omega) (clP_tk (by omega) hk (by omega) e69 hD) ?_
        intro i h1 h2 h3
        by_cases e : i = r
        · rw [e]; exact clP_0 (by omega) (by omega) hD
        · rw [rTk_ne (fun q => e q.1)]; exact h0 i h1 (by omega) h3
set_option maxHeartbeats 4000000 in
set_option maxRecDepth 100000 in
theorem clearOthers_1 {g : fG} {M : fM} {p sc : Int} {C : Nat → Nat → Int} {k c R u : Nat} (hg : gOk p M) (hu : u ≤ 11) (hR : R ≤ 11) (hk : k < R) (hc : c < u) (hr : ∀ i j, i < R → j < u + 1 → 0 ≤ C i j ∧ C i j < p) (hs0 : 0 ≤ sc ∧ sc < p) (hs : (C k c * sc) % p = 1) :
    ∀ (n j : Nat), j + n = u + 1 → fAt g Y_X1_clearOthers 18 [some (vr 8 0), some (vi (k : Int)), some (vi (c : Int)), some (vi (R : Int)), some (vi (u : Int)), some (vi sc), some (vi (j : Int))] [] (wC M (rSc p C k sc j)) (fN (fun M' => ∃ D, M' = wC M D ∧ clP p R u C k c D ∧ ∀ i, i < R → i ≠ k → D i c = 0)) := by
  have hp2 := hg.2.1
  intro n
  induction n with
  | zero =>
    intro j hn
    have e : j = u + 1 := by omega
    subst e
    refine st_iload dX1_clearOthers_18 rfl ?_
    refine st_iload dX1_clearOthers_20 rfl ?_
    refine st_icmp_gt 57 dX1_clearOthers_22 (by decide) (fun h22 => ?_) (fun h22 => ?_)
    · skip
      refine st_iconst dX1_clearOthers_57 (by decide) ?_
      refine st_istore (ls' := [some (vr 8 0), some (vi (k : Int)), some (vi (c : Int)), some (vi (R : Int)), some (vi (u : Int)), some (vi sc), some (vi 0)]) dX1_clearOthers_58 (by decide) rfl rfl ?_
      exact clearOthers_2 hg hu hR hk hc R 0 _ (by omega) (clP_sc (by omega) hk (by omega) hr hs) (fun i h1 h2 h3 => absurd h2 (by omega))
    · skip
      exact absurd h22 (by omega)
  | succ n ih =>
    intro j hn
    refine st_iload dX1_clearOthers_18 rfl ?_
    refine st_iload dX1_clearOthers_20 rfl ?_
    refine st_icmp_gt 57 dX1_clearOthers_22 (by decide) (fun h22 => ?_) (fun h22 => ?_)
    · skip
      exact absurd h22 (by omega)
    · skip
      refine st_aload_n dX1_clearOthers_25 rfl ?_
      refine st_getr (i' := 0) dX1_clearOthers_26 fl_X1_11 rfl rfl rfl (fun _ => by decide) ?_
      refine st_iload_n dX1_clearOthers_29 rfl ?_
      refine st_aald (j := k) (i' := k) dX1_clearOthers_30 rfl rfl rfl rfl ⟨_, rfl, rfl⟩ rfl (show k < 11 from by omega) rfl (fun _ => show k < 11 from by omega) ?_
      refine st_iload dX1_clearOthers_31 rfl ?_
      refine st_aload_n dX1_clearOthers_33 rfl ?_
      refine st_getr (i' := 0) dX1_clearOthers_34 fl_X1_11 rfl rfl rfl (fun _ => by decide) ?_
      refine st_iload_n dX1_clearOthers_37 rfl ?_
      refine st_aald (j := k) (i' := k) dX1_clearOthers_38 rfl rfl rfl rfl ⟨_, rfl, rfl⟩ rfl (show k < 11 from by omega) rfl (fun _ => show k < 11 from by omega) ?_
      refine st_iload dX1_clearOthers_39 rfl ?_
      refine st_iald (j := j) dX1_clearOthers_41 rfl rfl rfl rfl (by omega) ?_
      refine fAt_v (x' := C k j) (rSc_ne (by omega)) ?_
      have hkj := hr k j hk (by omega)
      have hm := mulb (x := C k j) (y := sc) (a := 97) (b := 97) hkj.1 hs0.1 (by omega) (by omega)
      refine st_iload dX1_clearOthers_42 rfl ?_
      refine st_imul dX1_clearOthers_44 (by omega) ?_
      refine st_aload_n dX1_clearOthers_45 rfl ?_
      refine st_get dX1_clearOthers_46 fl_X1_23 rfl rfl rfl ?_
      refine fAt_v (x' := p) hg.1 ?_
      refine st_irem dX1_clearOthers_49 (by omega) (by omega) ?_
      refine st_iast (j := j) dX1_clearOthers_50 rfl rfl rfl rfl (by omega) ?_
      refine fAt_m (wC_up _ _ _ _ _) ?_
      refine fAt_m (by rw [rSc_s]) ?_
      refine st_iinc (ls' := [some (vr 8 0), some (vi (k : Int)), some (vi (c : Int)), some (vi (R : Int)), some (vi (u : Int)), some (vi sc), some (vi ((j : Int) + 1))]) dX1_clearOthers_51 rfl (by omega) (by decide) rfl rfl ?_
      refine st_goto 18 dX1_clearOthers_54 (by decide) ?_
      exact ih (j + 1) (by omega)
set_option maxHeartbeats 4000000 in
set_option maxRecDepth 100000 in
theorem c_clearOthers {g : fG} {M : fM} {p : Int} {C : Nat → Nat → Int} {k c R u : Nat} (hg : gOk p M) (hu : u ≤ 11) (hR : R ≤ 11) (hk : k < R) (hc : c < u) (hr : ∀ i j, i < R → j < u + 1 → 0 ≤ C i j ∧ C i j < p) (hnz : C k c ≠ 0) :
    fCv g Y_X1_clearOthers [vr 8 0, vi k, vi c, vi R, vi u] (wC M C) (fun M' => ∃ D, M' = wC M D ∧ clP p R u C k c D ∧ ∀ i, i < R → i ≠ k → D i c = 0) := by
  have hp2 := hg.2.1
  have hkc := hr k c hk (by omega)
  have hnat : ((C k c).toNat : Int) = C k c := Int.toNat_of_nonneg hkc.1
  have hinv := hg.2.2 (C k c).toNat (by omega) (by omega)
  rw [hnat] at hinv
  refine fCv_of _ [some (vr 8 0), some (vi (k : Int)), some (vi (c : Int)), some (vi (R : Int)), some (vi (u : Int)), none, none] (by decide) (Nat.le_of_ble_eq_true rfl) rfl (fun h => h) ?_
  refine st_aload_n dX1_clearOthers_0 rfl ?_
  refine st_getr (i' := 0) dX1_clearOthers_1 fl_X1_20 rfl rfl rfl (fun _ => by decide) ?_
  refine st_aload_n dX1_clearOthers_4 rfl ?_
  refine st_getr (i' := 0) dX1_clearOthers_5 fl_X1_11 rfl rfl rfl (fun _ => by decide) ?_
  refine st_iload_n dX1_clearOthers_8 rfl ?_
  refine st_aald (j := k) (i' := k) dX1_clearOthers_9 rfl rfl rfl rfl ⟨_, rfl, rfl⟩ rfl (show k < 11 from by omega) rfl (fun _ => show k < 11 from by omega) ?_
  refine st_iload_n dX1_clearOthers_10 rfl ?_
  refine st_iald (j := c) dX1_clearOthers_11 rfl rfl rfl rfl (by omega) ?_
  refine fAt_v (x' := C k c) rfl ?_
  refine st_iald (j := (C k c).toNat) dX1_clearOthers_12 rfl rfl rfl hnat.symm (by omega) ?_
  refine fAt_v (x' := M 12 0 (C k c).toNat) rfl ?_
  refine st_istore (ls' := [some (vr 8 0), some (vi (k : Int)), some (vi (c : Int)), some (vi (R : Int)), some (vi (u : Int)), some (vi (M 12 0 (C k c).toNat)), none]) dX1_clearOthers_13 (by decide) rfl rfl ?_
  refine st_iconst dX1_clearOthers_15 (by decide) ?_
  refine st_istore (ls' := [some (vr 8 0), some (vi (k : Int)), some (vi (c : Int)), some (vi (R : Int)), some (vi (u : Int)), some (vi (M 12 0 (C k c).toNat)), some (vi 0)]) dX1_clearOthers_16 (by decide) rfl rfl ?_
  refine fAt_m (show wC M C = wC M (rSc p C k (M 12 0 (C k c).toNat) 0) by rw [rSc_0]) ?_
  exact clearOthers_1 hg hu hR hk hc hr ⟨hinv.1, hinv.2.1⟩ hinv.2.2 (u + 1) 0 (by omega)
