set_option maxHeartbeats 4000000 in
set_option maxRecDepth 100000 in
theorem determinant_i {g : fG} {M : fM} {p prod pr sc piv : Int} {A : Nat → Nat → Int} {n c : Nat} {Q : Option fV → fM → Prop} (hg : gOk p M) (hn : n ≤ 11) (hc : c < n) (hpr : pr = (prod * piv) % p) (hsc0 : 0 ≤ sc ∧ sc < p) (hsc : (piv * sc) % p = 1)
    (hk : ∀ C, dI p n A (c + 1) pr C → fAt g Y_X1_determinant 4 [some (vr 8 0), some (vi (n : Int)), some (vi pr), some (vi ((c : Int) + 1)), none, none] [] (wC M C) Q) :
    ∀ (m b : Nat) (C : Nat → Nat → Int), c < b → b + m = n → dI p n A c prod C → C c c = piv → (∀ r, c < r → r < b → C r c = 0) → fAt g Y_X1_determinant 58 [some (vr 8 0), some (vi (n : Int)), some (vi pr), some (vi (c : Int)), some (vi sc), some (vi (b : Int))] [] (wC M C) Q := by
  have hp2 := hg.2.1
  intro m
  induction m with
  | zero =>
    intro b C hb hm0 hd hpv h0
    have e : b = n := by omega
    subst e
    refine st_iload dX1_determinant_58 rfl ?_
    refine st_iload_n dX1_determinant_60 rfl ?_
    refine st_icmp_ge 96 dX1_determinant_61 (by decide) (fun h61 => ?_) (fun h61 => ?_)
    · skip
      refine st_iinc (ls' := [some (vr 8 0), some (vi (b : Int)), some (vi pr), some (vi ((c : Int) + 1)), some (vi sc), some (vi (b : Int))]) dX1_determinant_96 rfl (by omega) (by decide) rfl rfl ?_
      refine st_goto 4 dX1_determinant_99 (by decide) ?_
      refine fAt_del 4 rfl ?_
      refine fAt_del 5 rfl ?_
      exact hk C (by rw [hpr, ← hpv]; exact dI_next (by omega) hd (fun r h1 h2 => h0 r h1 h2))
    · skip
      exact absurd h61 (by omega)
  | succ m ih =>
    intro b C hb hm0 hd hpv h0
    refine st_iload dX1_determinant_58 rfl ?_
    refine st_iload_n dX1_determinant_60 rfl ?_
    refine st_icmp_ge 96 dX1_determinant_61 (by decide) (fun h61 => ?_) (fun h61 => ?_)
    · skip
      exact absurd h61 (by omega)
    · skip
      refine st_aload_n dX1_determinant_64 rfl ?_
      refine st_iload dX1_determinant_65 rfl ?_
      refine st_iload_n dX1_determinant_67 rfl ?_
      refine st_aload_n dX1_determinant_68 rfl ?_
      refine st_getr (i' := 0) dX1_determinant_69 fl_X1_11 rfl rfl rfl (fun _ => by decide) ?_
      refine st_iload dX1_determinant_72 rfl ?_
      refine st_aald (j := b) (i' := b) dX1_determinant_74 rfl rfl rfl rfl ⟨_, rfl, rfl⟩ rfl (show b < 11 from by omega) rfl (fun _ => show b < 11 from by omega) ?_
      refine st_iload_n dX1_determinant_75 rfl ?_
      refine st_iald (j := c) dX1_determinant_76 rfl rfl rfl rfl (by omega) ?_
      refine fAt_v (x' := C b c) rfl ?_
      have hbc := hd.1 b c (by omega) (by omega)
      have hm := mulb (x := C b c) (y := sc) (a := 97) (b := 97) hbc.1 hsc0.1 (by omega) (by omega)
      refine st_iload dX1_determinant_77 rfl ?_
      refine st_imul dX1_determinant_79 (by omega) ?_
      refine st_aload_n dX1_determinant_80 rfl ?_
      refine st_get dX1_determinant_81 fl_X1_23 rfl rfl rfl ?_
      refine fAt_v (x' := p) hg.1 ?_
      refine st_irem dX1_determinant_84 (by omega) (by omega) ?_
      refine st_iload_n dX1_determinant_85 rfl ?_
      refine st_iload_n dX1_determinant_86 rfl ?_
      refine st_callVv [vi (b : Int), vi (c : Int), vi (((C b c) * sc) % p), vi (c : Int), vi (n : Int)] [] dX1_determinant_87 vl_X1_44 rfl rfl rfl rfl (Nat.le_of_ble_eq_true rfl) (by decide) (c_takeAway_w (row := b) (other := c) hg (by omega) (by omega) (modb (by omega)) (by omega) (by omega) (fun j _ hj => hd.1 b j (by omega) hj) (fun j _ hj => hd.1 c j (by omega) hj)) (fun M1 q1 => ?_)
      subst q1
      refine st_iinc (ls' := [some (vr 8 0), some (vi (n : Int)), some (vi pr), some (vi (c : Int)), some (vi sc), some (vi ((b : Int) + 1))]) dX1_determinant_90 rfl (by omega) (by decide) rfl rfl ?_
      refine st_goto 58 dX1_determinant_93 (by decide) ?_
      refine ih (b + 1) (rTk p C b c ((C b c * sc) % p) c n) (by omega) (by omega) (dI_tk (by omega) hd (Nat.le_refl c) (by omega) (by omega) (Nat.le_refl c) (by omega) (by omega)) (by rw [rTk_ne (by omega)]; exact hpv) ?_
      intro r h1 h2
      by_cases e : r = b
      · rw [e, rTk_at (Nat.le_refl c) (by omega), hpv]; exact clr0 hsc (by omega)
      · rw [rTk_ne (by omega)]; exact h0 r h1 (by omega)
set_option maxHeartbeats 4000000 in
set_option maxRecDepth 100000 in
theorem determinant_o {g : fG} {M : fM} {p : Int} {A : Nat → Nat → Int} {n : Nat} (hg : gOk p M) (hn : n ≤ 11) :
    ∀ (m c : Nat) (prod : Int) (C : Nat → Nat → Int), c + m = n → 0 ≤ prod → prod < p → dI p n A c prod C → fAt g Y_X1_determinant 4 [some (vr 8 0), some (vi (n : Int)), some (vi prod), some (vi (c : Int)), none, none] [] (wC M C) (fI (fun z M' => z = dt n A % p ∧ ∃ C', M' = wC M C')) := by
  have hp2 := hg.2.1
  intro m
  induction m with
  | zero =>
    intro c prod C hm0 hp0 hp1 hd
    have e : c = n := by omega
    subst e
    refine st_iload_n dX1_determinant_4 rfl ?_
    refine st_iload_n dX1_determinant_5 rfl ?_
    refine st_icmp_ge 102 dX1_determinant_6 (by decide) (fun h6 => ?_) (fun h6 => ?_)
    · skip
      refine st_iload_n dX1_determinant_102 rfl ?_
      refine st_ireturn dX1_determinant_103 rfl ⟨_, rfl, ⟨dI_end hd hp0 hp1, C, rfl⟩⟩
    · skip
      exact absurd h6 (by omega)
  | succ m ih =>
    intro c prod C hm0 hp0 hp1 hd
    refine st_iload_n dX1_determinant_4 rfl ?_
    refine st_iload_n dX1_determinant_5 rfl ?_
    refine st_icmp_ge 102 dX1_determinant_6 (by decide) (fun h6 => ?_) (fun h6 => ?_)
    · skip
      exact absurd h6 (by omega)
    · skip
      refine st_aload_n dX1_determinant_9 rfl ?_
      refine st_iload_n dX1_determinant_10 rfl ?_
      refine st_iload_n dX1_determinant_11 rfl ?_
      refine st_iload_n dX1_determinant_12 rfl ?_
      refine st_iload_n dX1_determinant_13 rfl ?_
      refine st_callVi [vi (c : Int), vi (c : Int), vi (n : Int), vi (n : Int)] [] dX1_determinant_14 vl_X1_40 rfl rfl rfl rfl (Nat.le_of_ble_eq_true rfl) (by decide) (c_findPivot (col := c) (row := c) hg (by omega) (by omega) (by omega) hd.1 (by omega)) (fun z M1 q14 => ?_)
      rcases q14 with ⟨rfl, rfl, h0⟩ | ⟨rfl, r, hr1, hr2, hr3, hr4, rfl⟩
      · skip
        refine st_if_ne 22 dX1_determinant_17 (by decide) (fun h17 => ?_) (fun h17 => ?_)
        · skip
          exact absurd rfl h17
        · skip
          refine st_iconst dX1_determinant_20 (by decide) ?_
          refine st_ireturn dX1_determinant_21 rfl ⟨_, rfl, ⟨(dI_none (by omega) hd h0).symm, C, rfl⟩⟩
      · skip
        have hd1 : dI p n A c prod (if r = c then C else rTk p C c r (p - 1) 0 n) := by
          split
          · exact hd
          · exact dI_tk (by omega) hd (Nat.zero_le _) (Nat.le_refl _) (by omega) (by omega) (by omega) (by omega)
        have hnz : (if r = c then C else rTk p C c r (p - 1) 0 n) c c ≠ 0 := by
          split
          · rename_i e; rw [e] at hr3; exact hr3
          · have hrc := hd.1 r c (by omega) (by omega)
            rw [rTk_at (Nat.zero_le _) (by omega), hr4 c (Nat.le_refl c) (by omega), show p - (p - 1) = 1 by omega, Int.one_mul, Int.zero_add, Int.emod_eq_of_lt hrc.1 hrc.2]
            exact hr3
        generalize (if r = c then C else rTk p C c r (p - 1) 0 n) = C1 at hd1 hnz ⊢
        have hcc := hd1.1 c c (by omega) (by omega)
        have hnat : ((C1 c c).toNat : Int) = C1 c c := Int.toNat_of_nonneg hcc.1
        have hinv := hg.2.2 (C1 c c).toNat (by omega) (by omega)
        rw [hnat] at hinv
        refine st_if_ne 22 dX1_determinant_17 (by decide) (fun h17 => ?_) (fun h17 => ?_)
        · skip
          refine st_iload_n dX1_determinant_22 rfl ?_
          refine st_aload_n dX1_determinant_23 rfl ?_
          refine st_getr (i' := 0) dX1_determinant_24 fl_X1_11 rfl rfl rfl (fun _ => by decide) ?_
          refine st_iload_n dX1_determinant_27 rfl ?_
          refine st_aald (j := c) (i' := c) dX1_determinant_28 rfl rfl rfl rfl ⟨_, rfl, rfl⟩ rfl (show c < 11 from by omega) rfl (fun _ => show c < 11 from by omega) ?_
          refine st_iload_n dX1_determinant_29 rfl ?_
          refine st_iald (j := c) dX1_determinant_30 rfl rfl rfl rfl (by omega) ?_
          refine fAt_v (x' := C1 c c) rfl ?_
          have hm := mulb (x := prod) (y := C1 c c) (a := 97) (b := 97) (by omega) hcc.1 (by omega) (by omega)
          refine st_imul dX1_determinant_31 (by omega) ?_
          refine st_aload_n dX1_determinant_32 rfl ?_
          refine st_get dX1_determinant_33 fl_X1_23 rfl rfl rfl ?_
          refine fAt_v (x' := p) hg.1 ?_
          refine st_irem dX1_determinant_36 (by omega) (by omega) ?_
          refine st_istore_n (ls' := [some (vr 8 0), some (vi (n : Int)), some (vi ((prod * (C1 c c)) % p)), some (vi (c : Int)), none, none]) dX1_determinant_37 (by decide) rfl rfl ?_
          refine st_aload_n dX1_determinant_38 rfl ?_
          refine st_getr (i' := 0) dX1_determinant_39 fl_X1_20 rfl rfl rfl (fun _ => by decide) ?_
          refine st_aload_n dX1_determinant_42 rfl ?_
          refine st_getr (i' := 0) dX1_determinant_43 fl_X1_11 rfl rfl rfl (fun _ => by decide) ?_
          refine st_iload_n dX1_determinant_46 rfl ?_
          refine st_aald (j := c) (i' := c) dX1_determinant_47 rfl rfl rfl rfl ⟨_, rfl, rfl⟩ rfl (show c < 11 from by omega) rfl (fun _ => show c < 11 from by omega) ?_
          refine st_iload_n dX1_determinant_48 rfl ?_
          refine st_iald (j := c) dX1_determinant_49 rfl rfl rfl rfl (by omega) ?_
          refine fAt_v (x' := C1 c c) rfl ?_
          refine st_iald (j := (C1 c c).toNat) dX1_determinant_50 rfl rfl rfl hnat.symm (by omega) ?_
          refine fAt_v (x' := M 12 0 (C1 c c).toNat) rfl ?_
          refine st_istore (ls' := [some (vr 8 0), some (vi (n : Int)), some (vi ((prod * (C1 c c)) % p)), some (vi (c : Int)), some (vi (M 12 0 (C1 c c).toNat)), none]) dX1_determinant_51 (by decide) rfl rfl ?_
          refine st_iload_n dX1_determinant_53 rfl ?_
          refine st_iconst dX1_determinant_54 (by decide) ?_
          refine st_iadd dX1_determinant_55 (by omega) ?_
          refine st_istore (ls' := [some (vr 8 0), some (vi (n : Int)), some (vi ((prod * (C1 c c)) % p)), some (vi (c : Int)), some (vi (M 12 0 (C1 c c).toNat)), some (vi ((c : Int) + 1))]) dX1_determinant_56 (by decide) rfl rfl ?_
          exact determinant_i hg hn (by omega) rfl ⟨hinv.1, hinv.2.1⟩ hinv.2.2 (fun C2 h2 => ih (c + 1) _ C2 (by omega) (modb (by omega)).1 (modb (by omega)).2 h2) (n - (c + 1)) (c + 1) C1 (by omega) (by omega) hd1 rfl (fun r h1 h2 => absurd h2 (by omega))
        · skip
          exact absurd h17 (by omega)
set_option maxHeartbeats 4000000 in
set_option maxRecDepth 100000 in
theorem c_determinant {g : fG} {M : fM} {p : Int} {A : Nat → Nat → Int} {n : Nat} (hg : gOk p M) (hn : n ≤ 11) (hA : ∀ i j, i < n → j < n → 0 ≤ A i j ∧ A i j < p) :
    fCi g Y_X1_determinant [vr 8 0, vi n] (wC M A) (fun z M' => z = dt n A % p ∧ ∃ C', M' = wC M C') := by
  have hp2 := hg.2.1
  refine fCi_of _ [some (vr 8 0), some (vi (n : Int)), none, none, none, none] (by decide) (Nat.le_of_ble_eq_true rfl) rfl (fun h => h) ?_
  refine st_iconst dX1_determinant_0 (by decide) ?_
  refine st_istore_n (ls' := [some (vr 8 0), some (vi (n : Int)), some (vi 1), none, none, none]) dX1_determinant_1 (by decide) rfl rfl ?_
  refine st_iconst dX1_determinant_2 (by decide) ?_
  refine st_istore_n (ls' := [some (vr 8 0), some (vi (n : Int)), some (vi 1), some (vi 0), none, none]) dX1_determinant_3 (by decide) rfl rfl ?_
  exact determinant_o hg hn n 0 1 A (by omega) (by omega) (by omega) (dI_0 hA)
