set_option maxHeartbeats 4000000 in
set_option maxRecDepth 100000 in
theorem m_leap_l {g : fG} {M : fM} {w : Nat} {p : Int} (hn : nOk M w p) {k : Nat} :
    ∀ (n : Nat) (s : Nat) (Nn : fM), s + n = w + 1 → k < s → (∀ q, k < q → q < s → dt q (eN M w p) % p = 0) → mS M Nn → fAt g Y_X7_leap 14 [some (vr 22 0), some (vi (k : Int)), some (vi (s : Int))] [] Nn (fI (fun z M' => LpS (fun q => dt q (eN M w p) % p) w k z ∧ mS M M')) := by
  have hw1 := hn.2.2.2.1
  have hp2 := hn.2.2.1.1
  intro n
  induction n with
  | zero =>
    intro s Nn hm hks h0 hS
    have hn1 := nOk_S hn hS
    refine st_iload_n dX7_leap_14 rfl ?_
    refine st_aload_n dX7_leap_15 rfl ?_
    refine st_getr (i' := 0) dX7_leap_16 fl_X7_7 rfl rfl rfl (fun _ => by decide) ?_
    refine st_iconst dX7_leap_19 (by decide) ?_
    refine st_iald (j := 0) dX7_leap_20 rfl rfl rfl rfl (by decide) ?_
    refine fAt_v (x' := (w : Int)) hn1.1 ?_
    refine st_icmp_gt 38 dX7_leap_21 (by decide) (fun h21 => ?_) (fun h21 => ?_)
    · skip
      refine st_iload_n dX7_leap_38 rfl ?_
      refine st_aload_n dX7_leap_39 rfl ?_
      refine st_getr (i' := 0) dX7_leap_40 fl_X7_7 rfl rfl rfl (fun _ => by decide) ?_
      refine st_iconst dX7_leap_43 (by decide) ?_
      refine st_iald (j := 0) dX7_leap_44 rfl rfl rfl rfl (by decide) ?_
      refine fAt_v (x' := (w : Int)) hn1.1 ?_
      refine st_icmp_le 53 dX7_leap_45 (by decide) (fun h45 => ?_) (fun h45 => ?_)
      · skip
        exact absurd h45 (by omega)
      · skip
        refine st_bipush dX7_leap_48 (by decide) ?_
        refine st_goto 56 dX7_leap_50 (by decide) ?_
        refine st_ireturn dX7_leap_56 rfl ⟨_, rfl, ⟨Or.inl ⟨rfl, fun q h1 h2 => h0 q h1 (by omega)⟩, hS⟩⟩
    · skip
      exact absurd h21 (by omega)
  | succ n ih =>
    intro s Nn hm hks h0 hS
    have hn1 := nOk_S hn hS
    refine st_iload_n dX7_leap_14 rfl ?_
    refine st_aload_n dX7_leap_15 rfl ?_
    refine st_getr (i' := 0) dX7_leap_16 fl_X7_7 rfl rfl rfl (fun _ => by decide) ?_
    refine st_iconst dX7_leap_19 (by decide) ?_
    refine st_iald (j := 0) dX7_leap_20 rfl rfl rfl rfl (by decide) ?_
    refine fAt_v (x' := (w : Int)) hn1.1 ?_
    refine st_icmp_gt 38 dX7_leap_21 (by decide) (fun h21 => ?_) (fun h21 => ?_)
    · skip
      exact absurd h21 (by omega)
    · skip
      refine st_aload_n dX7_leap_24 rfl ?_
      refine st_iload_n dX7_leap_25 rfl ?_
      refine st_callVi [vi (s : Int)] [] dX7_leap_26 vl_X7_117 rfl rfl rfl rfl (Nat.le_of_ble_eq_true rfl) (by decide) (m_cornerOf (n := s) hn1 (by omega)) (fun z Mc qc => ?_)
      obtain ⟨rfl, D, rfl⟩ := qc
      rw [eN_S hS]
      refine st_if_ne 38 dX7_leap_29 (by decide) (fun h29 => ?_) (fun h29 => ?_)
      · skip
        refine st_iload_n dX7_leap_38 rfl ?_
        refine st_aload_n dX7_leap_39 rfl ?_
        refine st_getr (i' := 0) dX7_leap_40 fl_X7_7 rfl rfl rfl (fun _ => by decide) ?_
        refine st_iconst dX7_leap_43 (by decide) ?_
        refine st_iald (j := 0) dX7_leap_44 rfl rfl rfl rfl (by decide) ?_
        refine fAt_v (x' := (w : Int)) ((mS_n mS_W 0).trans hn1.1) ?_
        refine st_icmp_le 53 dX7_leap_45 (by decide) (fun h45 => ?_) (fun h45 => ?_)
        · skip
          refine st_iload_n dX7_leap_53 rfl ?_
          refine st_iload_n dX7_leap_54 rfl ?_
          refine st_isub dX7_leap_55 (by omega) ?_
          refine st_ireturn dX7_leap_56 rfl ⟨_, rfl, ⟨Or.inr ⟨s, by omega, by omega, h29, h0, by omega⟩, mS_t hS mS_W⟩⟩
        · skip
          exact absurd h45 (by omega)
      · skip
        refine st_iinc (ls' := [some (vr 22 0), some (vi (k : Int)), some (vi ((s : Int) + 1))]) dX7_leap_32 rfl (by omega) (by decide) rfl rfl ?_
        refine st_goto 14 dX7_leap_35 (by decide) ?_
        exact ih (s + 1) _ (by omega) (by omega) (fun q h1 h2 => by
          by_cases e : q = s
          · rw [e]; exact h29
          · exact h0 q h1 (by omega)) (mS_t hS mS_W)
set_option maxHeartbeats 4000000 in
set_option maxRecDepth 100000 in
theorem m_leap {g : fG} {M : fM} {w : Nat} {p : Int} (hn : nOk M w p) {x : Int} :
    fCi g Y_X7_leap [vr 22 0, vi x] M (fun z M' => ((¬ (0 ≤ x ∧ x < (w : Int)) ∧ z = -1) ∨ ((0 ≤ x ∧ x < (w : Int)) ∧ LpS (fun q => dt q (eN M w p) % p) w x.toNat z)) ∧ mS M M') := by
  have hw1 := hn.2.2.2.1
  have hp2 := hn.2.2.1.1
  refine fCi_of _ [some (vr 22 0), some (vi x), none] (by decide) (Nat.le_of_ble_eq_true rfl) rfl (fun h => h) ?_
  refine st_aload_n dX7_leap_0 rfl ?_
  refine st_iload_n dX7_leap_1 rfl ?_
  refine st_callVi [vi x] [] dX7_leap_2 vl_X7_114 rfl rfl rfl rfl (Nat.le_of_ble_eq_true rfl) (by decide) (m_isRow hn.1 hn.2.2.2.1) (fun za Ma qa => ?_)
  obtain ⟨qa, rfl⟩ := qa
  rcases qa with ⟨rfl, aa⟩ | ⟨rfl, aa⟩
  · skip
    refine st_if_ne 10 dX7_leap_5 (by decide) (fun h5 => ?_) (fun h5 => ?_)
    · skip
      refine st_iload_n dX7_leap_10 rfl ?_
      refine st_iconst dX7_leap_11 (by decide) ?_
      refine st_iadd dX7_leap_12 (by omega) ?_
      refine st_istore_n (ls' := [some (vr 22 0), some (vi x), some (vi (x + 1))]) dX7_leap_13 (by decide) rfl rfl ?_
      refine fAt_ls (ls' := [some (vr 22 0), some (vi ((x.toNat : Nat) : Int)), some (vi ((x.toNat + 1 : Nat) : Int))]) (by rw [show ((x.toNat : Nat) : Int) = x by omega, show ((x.toNat + 1 : Nat) : Int) = x + 1 by omega]) ?_
      refine fAt_q (fun r M' h => ?_) (m_leap_l hn (w - x.toNat) (x.toNat + 1) Ma (by omega) (by omega) (fun q h1 h2 => absurd h2 (by omega)) (mS_r Ma))
      obtain ⟨z, e, h1, h2⟩ := h
      exact ⟨z, e, Or.inr ⟨aa, h1⟩, h2⟩
    · skip
      exact absurd h5 (by omega)
  · skip
    refine st_if_ne 10 dX7_leap_5 (by decide) (fun h5 => ?_) (fun h5 => ?_)
    · skip
      exact absurd h5 (by omega)
    · skip
      refine st_iconst dX7_leap_8 (by decide) ?_
      refine st_ireturn dX7_leap_9 rfl ⟨_, rfl, ⟨Or.inl ⟨aa, rfl⟩, mS_r _⟩⟩
set_option maxHeartbeats 4000000 in
set_option maxRecDepth 100000 in
theorem m_solved {g : fG} {M : fM} {w : Nat} {p : Int} (hn : nOk M w p) {x : Int} :
    fCl g Y_X7_solved [vr 22 0, vi x] M (fun z M' => ((¬ (x = -1 ∨ (0 ≤ x ∧ x < (w : Int))) ∧ z = -1) ∨ ((x = -1 ∨ (0 ≤ x ∧ x < (w : Int))) ∧ SvS p w (aug (eN M w p) w (lS M)) x z)) ∧ mS M M') := by
  have hw1 := hn.2.2.2.1
  have hp2 := hn.2.2.1.1
  refine fCl_of _ [some (vr 22 0), some (vi x), none, none] (by decide) (Nat.le_of_ble_eq_true rfl) rfl (fun h => h) ?_
  refine st_iload_n dX7_solved_0 rfl ?_
  refine st_iconst dX7_solved_1 (by decide) ?_
  refine st_icmp_eq 17 dX7_solved_2 (by decide) (fun h2 => ?_) (fun h2 => ?_)
  · skip
    refine st_aload_n dX7_solved_17 rfl ?_
    refine st_callVl [] [] dX7_solved_18 vl_X7_182 rfl rfl rfl rfl (Nat.le_of_ble_eq_true rfl) (by decide) (m_ways hn) (fun z Mb qb => ?_)
    obtain ⟨C, t, kf, rfl, ht, hz⟩ := qb
    refine st_lstore_n (ls' := [some (vr 22 0), some (vi x), some (vl z), none]) dX7_solved_21 (by decide) rfl rfl ?_
    refine st_iload_n dX7_solved_22 rfl ?_
    refine st_iconst dX7_solved_23 (by decide) ?_
    refine st_icmp_ne 31 dX7_solved_24 (by decide) (fun h24 => ?_) (fun h24 => ?_)
    · skip
      refine st_lload_n dX7_solved_31 rfl ?_
      refine st_lconst0 dX7_solved_32 ?_
      refine st_lcmp dX7_solved_33 ?_
      refine st_if_ne 43 dX7_solved_34 (by decide) (fun h34 => ?_) (fun h34 => ?_)
      · skip
        have h34 : z ≠ 0 := fun q => h34 (fcmp_eq.mpr q)
        refine st_aload_n dX7_solved_43 rfl ?_
        refine st_iload_n dX7_solved_44 rfl ?_
        refine st_aload_n dX7_solved_45 rfl ?_
        refine st_getr (i' := 0) dX7_solved_46 fl_X7_7 rfl rfl rfl (fun _ => by decide) ?_
        refine st_iconst dX7_solved_49 (by decide) ?_
        refine st_iald (j := 0) dX7_solved_50 rfl rfl rfl rfl (by decide) ?_
        refine fAt_v (x' := (w : Int)) ((mS_n mS_T 0).trans hn.1) ?_
        refine fAt_v2 (x' := ((x.toNat : Nat) : Int)) (by omega) ?_
        refine st_callVi [vi ((x.toNat : Nat) : Int), vi (w : Int)] [] dX7_solved_51 vl_X7_188 rfl rfl rfl rfl (Nat.le_of_ble_eq_true rfl) (by decide) (m_least (c := x.toNat) (u := w) (by omega) (by omega) (ht _ (by omega))) (fun zl Ml ql => ?_)
        obtain ⟨rfl, q⟩ := ql
        subst Ml
        refine st_i2l dX7_solved_54 ?_
        refine st_lreturn dX7_solved_55 rfl ⟨_, rfl, ?_⟩
        first | exact ⟨Or.inr ⟨by omega, z, _, hz, Or.inl ⟨by omega, rfl⟩⟩, mS_T⟩ | exact ⟨Or.inr ⟨by omega, z, _, hz, Or.inr (Or.inl ⟨by omega, h34, rfl⟩)⟩, mS_T⟩ | exact ⟨Or.inr ⟨by omega, z, _, hz, Or.inr (Or.inr ⟨by omega, h34, rfl⟩)⟩, mS_T⟩
      · skip
        have h34 : z = 0 := fcmp_eq.mp h34
        refine st_ldc2 (v := -4) (-4) dX7_solved_37 (ftb_in 949 (by decide +kernel) rfl) (by decide +kernel) ?_
        refine st_goto 55 dX7_solved_40 (by decide) ?_
        refine st_lreturn dX7_solved_55 rfl ⟨_, rfl, ?_⟩
        first | exact ⟨Or.inr ⟨by omega, z, _, hz, Or.inl ⟨by omega, rfl⟩⟩, mS_T⟩ | exact ⟨Or.inr ⟨by omega, z, _, hz, Or.inr (Or.inl ⟨by omega, h34, rfl⟩)⟩, mS_T⟩ | exact ⟨Or.inr ⟨by omega, z, _, hz, Or.inr (Or.inr ⟨by omega, h34, rfl⟩)⟩, mS_T⟩
    · skip
      refine st_lload_n dX7_solved_27 rfl ?_
      refine st_goto 55 dX7_solved_28 (by decide) ?_
      refine st_lreturn dX7_solved_55 rfl ⟨_, rfl, ?_⟩
      first | exact ⟨Or.inr ⟨by omega, z, _, hz, Or.inl ⟨by omega, rfl⟩⟩, mS_T⟩ | exact ⟨Or.inr ⟨by omega, z, _, hz, Or.inr (Or.inl ⟨by omega, h34, rfl⟩)⟩, mS_T⟩ | exact ⟨Or.inr ⟨by omega, z, _, hz, Or.inr (Or.inr ⟨by omega, h34, rfl⟩)⟩, mS_T⟩
  · skip
    refine st_aload_n dX7_solved_5 rfl ?_
    refine st_iload_n dX7_solved_6 rfl ?_
    refine st_callVi [vi x] [] dX7_solved_7 vl_X7_114 rfl rfl rfl rfl (Nat.le_of_ble_eq_true rfl) (by decide) (m_isRow hn.1 hn.2.2.2.1) (fun za Ma qa => ?_)
    obtain ⟨qa, rfl⟩ := qa
    rcases qa with ⟨rfl, aa⟩ | ⟨rfl, aa⟩
    · skip
      refine st_if_ne 17 dX7_solved_10 (by decide) (fun h10 => ?_) (fun h10 => ?_)
      · skip
        refine st_aload_n dX7_solved_17 rfl ?_
        refine st_callVl [] [] dX7_solved_18 vl_X7_182 rfl rfl rfl rfl (Nat.le_of_ble_eq_true rfl) (by decide) (m_ways hn) (fun z Mb qb => ?_)
        obtain ⟨C, t, kf, rfl, ht, hz⟩ := qb
        refine st_lstore_n (ls' := [some (vr 22 0), some (vi x), some (vl z), none]) dX7_solved_21 (by decide) rfl rfl ?_
        refine st_iload_n dX7_solved_22 rfl ?_
        refine st_iconst dX7_solved_23 (by decide) ?_
        refine st_icmp_ne 31 dX7_solved_24 (by decide) (fun h24 => ?_) (fun h24 => ?_)
        · skip
          refine st_lload_n dX7_solved_31 rfl ?_
          refine st_lconst0 dX7_solved_32 ?_
          refine st_lcmp dX7_solved_33 ?_
          refine st_if_ne 43 dX7_solved_34 (by decide) (fun h34 => ?_) (fun h34 => ?_)
          · skip
            have h34 : z ≠ 0 := fun q => h34 (fcmp_eq.mpr q)
            refine st_aload_n dX7_solved_43 rfl ?_
            refine st_iload_n dX7_solved_44 rfl ?_
            refine st_aload_n dX7_solved_45 rfl ?_
            refine st_getr (i' := 0) dX7_solved_46 fl_X7_7 rfl rfl rfl (fun _ => by decide) ?_
            refine st_iconst dX7_solved_49 (by decide) ?_
            refine st_iald (j := 0) dX7_solved_50 rfl rfl rfl rfl (by decide) ?_
            refine fAt_v (x' := (w : Int)) ((mS_n mS_T 0).trans hn.1) ?_
            refine fAt_v2 (x' := ((x.toNat : Nat) : Int)) (by omega) ?_
            refine st_callVi [vi ((x.toNat : Nat) : Int), vi (w : Int)] [] dX7_solved_51 vl_X7_188 rfl rfl rfl rfl (Nat.le_of_ble_eq_true rfl) (by decide) (m_least (c := x.toNat) (u := w) (by omega) (by omega) (ht _ (by omega))) (fun zl Ml ql => ?_)
            obtain ⟨rfl, q⟩ := ql
            subst Ml
            refine st_i2l dX7_solved_54 ?_
            refine st_lreturn dX7_solved_55 rfl ⟨_, rfl, ?_⟩
            first | exact ⟨Or.inr ⟨by omega, z, _, hz, Or.inl ⟨by omega, rfl⟩⟩, mS_T⟩ | exact ⟨Or.inr ⟨by omega, z, _, hz, Or.inr (Or.inl ⟨by omega, h34, rfl⟩)⟩, mS_T⟩ | exact ⟨Or.inr ⟨by omega, z, _, hz, Or.inr (Or.inr ⟨by omega, h34, rfl⟩)⟩, mS_T⟩
          · skip
            have h34 : z = 0 := fcmp_eq.mp h34
            refine st_ldc2 (v := -4) (-4) dX7_solved_37 (ftb_in 949 (by decide +kernel) rfl) (by decide +kernel) ?_
            refine st_goto 55 dX7_solved_40 (by decide) ?_
            refine st_lreturn dX7_solved_55 rfl ⟨_, rfl, ?_⟩
            first | exact ⟨Or.inr ⟨by omega, z, _, hz, Or.inl ⟨by omega, rfl⟩⟩, mS_T⟩ | exact ⟨Or.inr ⟨by omega, z, _, hz, Or.inr (Or.inl ⟨by omega, h34, rfl⟩)⟩, mS_T⟩ | exact ⟨Or.inr ⟨by omega, z, _, hz, Or.inr (Or.inr ⟨by omega, h34, rfl⟩)⟩, mS_T⟩
        · skip
          refine st_lload_n dX7_solved_27 rfl ?_
          refine st_goto 55 dX7_solved_28 (by decide) ?_
          refine st_lreturn dX7_solved_55 rfl ⟨_, rfl, ?_⟩
          first | exact ⟨Or.inr ⟨by omega, z, _, hz, Or.inl ⟨by omega, rfl⟩⟩, mS_T⟩ | exact ⟨Or.inr ⟨by omega, z, _, hz, Or.inr (Or.inl ⟨by omega, h34, rfl⟩)⟩, mS_T⟩ | exact ⟨Or.inr ⟨by omega, z, _, hz, Or.inr (Or.inr ⟨by omega, h34, rfl⟩)⟩, mS_T⟩
      · skip
        exact absurd h10 (by omega)
    · skip
      refine st_if_ne 17 dX7_solved_10 (by decide) (fun h10 => ?_) (fun h10 => ?_)
      · skip
        exact absurd h10 (by omega)
      · skip
        refine st_ldc2 (v := -1) (-1) dX7_solved_13 (ftb_in 944 (by decide +kernel) rfl) (by decide +kernel) ?_
        refine st_lreturn dX7_solved_16 rfl ⟨_, rfl, ⟨Or.inl ⟨by omega, rfl⟩, mS_r _⟩⟩
set_option maxHeartbeats 4000000 in
set_option maxRecDepth 100000 in
theorem m_inverse {g : fG} {M : fM} {w : Nat} {p : Int} (hn : nOk M w p) {x y : Int} :
    fCi g Y_X7_inverse [vr 22 0, vi x, vi y] M (fun z M' => ((¬ ((0 ≤ x ∧ x < (w : Int)) ∧ (0 ≤ y ∧ y < (w : Int))) ∧ z = -1) ∨ (((0 ≤ x ∧ x < (w : Int)) ∧ (0 ≤ y ∧ y < (w : Int))) ∧ IvS p w (eN M w p) x.toNat y.toNat z)) ∧ mS M M') := by
  have hw1 := hn.2.2.2.1
  have hp2 := hn.2.2.1.1
  refine fCi_of _ [some (vr 22 0), some (vi x), some (vi y), none] (by decide) (Nat.le_of_ble_eq_true rfl) rfl (fun h => h) ?_
  refine st_aload_n dX7_inverse_0 rfl ?_
  refine st_iload_n dX7_inverse_1 rfl ?_
  refine st_callVi [vi x] [] dX7_inverse_2 vl_X7_114 rfl rfl rfl rfl (Nat.le_of_ble_eq_true rfl) (by decide) (m_isRow hn.1 hn.2.2.2.1) (fun za Ma qa => ?_)
  obtain ⟨qa, rfl⟩ := qa
  rcases qa with ⟨rfl, aa⟩ | ⟨rfl, aa⟩
  · skip
    refine st_if_eq 16 dX7_inverse_5 (by decide) (fun h5 => ?_) (fun h5 => ?_)
    · skip
      exact absurd h5 (by omega)
    · skip
      refine st_aload_n dX7_inverse_8 rfl ?_
      refine st_iload_n dX7_inverse_9 rfl ?_
      refine st_callVi [vi y] [] dX7_inverse_10 vl_X7_114 rfl rfl rfl rfl (Nat.le_of_ble_eq_true rfl) (by decide) (m_isRow hn.1 hn.2.2.2.1) (fun zb Mb qb => ?_)
      obtain ⟨qb, rfl⟩ := qb
      rcases qb with ⟨rfl, ab⟩ | ⟨rfl, ab⟩
      · skip
        refine st_if_ne 18 dX7_inverse_13 (by decide) (fun h13 => ?_) (fun h13 => ?_)
        · skip
          refine st_aload_n dX7_inverse_18 rfl ?_
          refine st_iload_n dX7_inverse_19 rfl ?_
          refine st_callVi [vi y] [] dX7_inverse_20 vl_X7_97 rfl rfl rfl rfl (Nat.le_of_ble_eq_true rfl) (by decide) (m_solves hn) (fun z Ms qs => ?_)
          obtain ⟨C, t, kk, rfl, ht, hz, hL⟩ := qs
          have eS : (fun i : Nat => if y < 0 then lS Mb i else if (i : Int) = y then (1 : Int) else 0) = unt y.toNat := by
            funext i
            unfold unt
            rw [if_neg (by omega)]
            by_cases e : (i : Int) = y
            · rw [if_pos e, if_pos (by omega)]
            · rw [if_neg e, if_neg (by omega)]
          rw [eS] at hL
          have hun : ∀ i, i < w → 0 ≤ unt y.toNat i ∧ unt y.toNat i < p := by
            intro i _
            unfold unt
            split <;> omega
          have hrd := rank_det hn.2.2.1 (fun i j hi hj => eN_rng hn hi hj) hun hL
          rcases hz with rfl | rfl
          · skip
            refine st_if_eq 43 dX7_inverse_23 (by decide) (fun h23 => ?_) (fun h23 => ?_)
            · skip
              refine st_iconst dX7_inverse_43 (by decide) ?_
              refine st_istore_n (ls' := [some (vr 22 0), some (vi x), some (vi y), some (vi 0)]) dX7_inverse_44 (by decide) rfl rfl ?_
              refine st_iload_n dX7_inverse_45 rfl ?_
              refine st_if_eq 63 dX7_inverse_46 (by decide) (fun h46 => ?_) (fun h46 => ?_)
              · skip
                refine st_bipush dX7_inverse_63 (by decide) ?_
                refine st_ireturn dX7_inverse_65 rfl ⟨_, rfl, ⟨Or.inr ⟨⟨aa, ab⟩, Or.inl ⟨?_, rfl⟩⟩, mS_T⟩⟩
                apply Classical.byContradiction
                intro hd
                exact absurd (hrd.2 (hrd.1.mpr hd)) (by decide)
              · skip
                exact absurd rfl h46
            · skip
              exact absurd rfl h23
          · skip
            refine st_if_eq 43 dX7_inverse_23 (by decide) (fun h23 => ?_) (fun h23 => ?_)
            · skip
              exact absurd h23 (by decide)
            · skip
              refine st_aload_n dX7_inverse_26 rfl ?_
              refine st_get dX7_inverse_27 fl_X7_87 rfl rfl rfl ?_
              refine fAt_v (x' := (kk : Int)) (wT_kat _ _ _ _) ?_
              refine st_aload_n dX7_inverse_30 rfl ?_
              refine st_getr (i' := 0) dX7_inverse_31 fl_X7_7 rfl rfl rfl (fun _ => by decide) ?_
              refine st_iconst dX7_inverse_34 (by decide) ?_
              refine st_iald (j := 0) dX7_inverse_35 rfl rfl rfl rfl (by decide) ?_
              refine fAt_v (x' := (w : Int)) ((mS_n mS_T 0).trans hn.1) ?_
              refine st_icmp_ne 43 dX7_inverse_36 (by decide) (fun h36 => ?_) (fun h36 => ?_)
              · skip
                refine st_iconst dX7_inverse_43 (by decide) ?_
                refine st_istore_n (ls' := [some (vr 22 0), some (vi x), some (vi y), some (vi 0)]) dX7_inverse_44 (by decide) rfl rfl ?_
                refine st_iload_n dX7_inverse_45 rfl ?_
                refine st_if_eq 63 dX7_inverse_46 (by decide) (fun h46 => ?_) (fun h46 => ?_)
                · skip
                  refine st_bipush dX7_inverse_63 (by decide) ?_
                  refine st_ireturn dX7_inverse_65 rfl ⟨_, rfl, ?_⟩
                  first
                  | exact ⟨Or.inr ⟨⟨aa, ab⟩, Or.inr ⟨hrd.1.mp (by omega), _, hL.2.2 rfl, rfl⟩⟩, mS_T⟩
                  | (refine ⟨Or.inr ⟨⟨aa, ab⟩, Or.inl ⟨?_, rfl⟩⟩, mS_T⟩
                     apply Classical.byContradiction
                     intro hd
                     have := hrd.1.mpr hd
                     omega)
                · skip
                  exact absurd rfl h46
              · skip
                refine st_iconst dX7_inverse_39 (by decide) ?_
                refine st_goto 44 dX7_inverse_40 (by decide) ?_
                refine st_istore_n (ls' := [some (vr 22 0), some (vi x), some (vi y), some (vi 1)]) dX7_inverse_44 (by decide) rfl rfl ?_
                refine st_iload_n dX7_inverse_45 rfl ?_
                refine st_if_eq 63 dX7_inverse_46 (by decide) (fun h46 => ?_) (fun h46 => ?_)
                · skip
                  exact absurd h46 (by decide)
                · skip
                  refine st_aload_n dX7_inverse_49 rfl ?_
                  refine st_iload_n dX7_inverse_50 rfl ?_
                  refine st_aload_n dX7_inverse_51 rfl ?_
                  refine st_getr (i' := 0) dX7_inverse_52 fl_X7_7 rfl rfl rfl (fun _ => by decide) ?_
                  refine st_iconst dX7_inverse_55 (by decide) ?_
                  refine st_iald (j := 0) dX7_inverse_56 rfl rfl rfl rfl (by decide) ?_
                  refine fAt_v (x' := (w : Int)) ((mS_n mS_T 0).trans hn.1) ?_
                  refine fAt_v2 (x' := ((x.toNat : Nat) : Int)) (by omega) ?_
                  refine st_callVi [vi ((x.toNat : Nat) : Int), vi (w : Int)] [] dX7_inverse_57 vl_X7_188 rfl rfl rfl rfl (Nat.le_of_ble_eq_true rfl) (by decide) (m_least (c := x.toNat) (u := w) (by omega) (by omega) (ht _ (by omega))) (fun zl Ml ql => ?_)
                  obtain ⟨rfl, q⟩ := ql
                  subst Ml
                  refine st_goto 65 dX7_inverse_60 (by decide) ?_
                  refine st_ireturn dX7_inverse_65 rfl ⟨_, rfl, ?_⟩
                  first
                  | exact ⟨Or.inr ⟨⟨aa, ab⟩, Or.inr ⟨hrd.1.mp (by omega), _, hL.2.2 rfl, rfl⟩⟩, mS_T⟩
                  | (refine ⟨Or.inr ⟨⟨aa, ab⟩, Or.inl ⟨?_, rfl⟩⟩, mS_T⟩
                     apply Classical.byContradiction
                     intro hd
                     have := hrd.1.mpr hd
                     omega)
        · skip
          exact absurd h13 (by omega)
      · skip
        refine st_if_ne 18 dX7_inverse_13 (by decide) (fun h13 => ?_) (fun h13 => ?_)
        · skip
          exact absurd h13 (by omega)
        · skip
          refine st_iconst dX7_inverse_16 (by decide) ?_
          refine st_ireturn dX7_inverse_17 rfl ⟨_, rfl, ⟨Or.inl ⟨by omega, rfl⟩, mS_r _⟩⟩
  · skip
    refine st_if_eq 16 dX7_inverse_5 (by decide) (fun h5 => ?_) (fun h5 => ?_)
    · skip
      refine st_iconst dX7_inverse_16 (by decide) ?_
      refine st_ireturn dX7_inverse_17 rfl ⟨_, rfl, ⟨Or.inl ⟨by omega, rfl⟩, mS_r _⟩⟩
    · skip
      exact absurd h5 (by omega)
/-! a number tried at a place -/
def wV (M : fM) (k : Nat) (v : Int) (D : Nat → Nat → Int) : fM := wW (fup M 23 0 (4 + k) v) D
theorem wV_up (M : fM) (k : Nat) (v v' : Int) (D : Nat → Nat → Int) : fup (wV M k v D) 23 0 (4 + k) v' = wV M k v' D := by
  funext a b c
  simp only [wV, wW, fup]
  grind (splits := 40)
theorem wV_0 (M : fM) (k : Nat) : wV M k (lL M k) (fun i j => M 24 0 (13 * i + j)) = M := by
  unfold wV
  have e : fup M 23 0 (4 + k) (lL M k) = M := by
    funext a b c
    unfold fup
    split
    · rename_i h
      rw [h.1, h.2.1, h.2.2]
    · rfl
  rw [e]
  exact wW_self M
theorem wV_b (M : fM) (k : Nat) (D : Nat → Nat → Int) : wV M k (lL M k) D = wW M D := by
  unfold wV
  have e : fup M 23 0 (4 + k) (lL M k) = M := by
    funext a b c
    unfold fup
    split
    · rename_i h
      rw [h.1, h.2.1, h.2.2]
    · rfl
  rw [e]
theorem wV_n {M : fM} {w k : Nat} {p v : Int} {D : Nat → Nat → Int} (h : nOk M w p) (hk : k < 2 * w - 1) (hv : 0 ≤ v ∧ v < p) : nOk (wV M k v D) w p := by
  obtain ⟨h1, h2, h3, h4, h5, h6, h7, h8⟩ := h
  have e : ∀ b, b ≠ 4 + k → wV M k v D 23 0 b = M 23 0 b := fun b hb => by
    unfold wV
    rw [wW_ne (by decide), fup_ne (by omega)]
  refine ⟨by rw [e 0 (by omega)]; exact h1, by rw [e 2 (by omega)]; exact h2, h3, h4, by rw [e 1 (by omega)]; exact h5, fun q hq => ?_, fun q hq => ?_, by rw [e 3 (by omega)]; exact h8⟩
  · show 0 ≤ wV M k v D 23 0 (4 + q) ∧ wV M k v D 23 0 (4 + q) < p
    by_cases q2 : q = k
    · subst q2
      unfold wV
      rw [wW_ne (by decide), fup_eq]
      exact hv
    · rw [e (4 + q) (by omega)]
      exact h6 q hq
  · show 0 ≤ wV M k v D 23 0 (15 + q) ∧ wV M k v D 23 0 (15 + q) < p
    rw [e (15 + q) (by omega)]
    exact h7 q hq
def eW (M : fM) (w : Nat) (p : Int) (k : Nat) (v : Int) : Nat → Nat → Int := ent p w (M 23 0 1) (fun q => if q = k then v else lL M q)
def cW (M : fM) (w : Nat) (p : Int) (k v : Nat) : Int := dt w (eW M w p k (v : Int)) % p
theorem eN_V {M : fM} {w k : Nat} {p v : Int} {D : Nat → Nat → Int} : eN (wV M k v D) w p = eW M w p k v := by
  show ent p w (wV M k v D 23 0 1) (lL (wV M k v D)) = _
  have e1 : wV M k v D 23 0 1 = M 23 0 1 := by
    unfold wV
    rw [wW_ne (by decide), fup_ne (by omega)]
  have e2 : lL (wV M k v D) = fun q => if q = k then v else lL M q := by
    funext q
    show wV M k v D 23 0 (4 + q) = _
    unfold wV
    rw [wW_ne (by decide)]
    by_cases e : q = k
    · rw [if_pos e, e, fup_eq]
    · rw [if_neg e, fup_ne (by omega)]
  rw [e1, e2]
  rfl
theorem eW_self {M : fM} {w k : Nat} {p : Int} : eW M w p k (lL M k) = eN M w p := by
  unfold eW
  have e : (fun q => if q = k then lL M k else lL M q) = lL M := by
    funext q
    split
    · rename_i h; rw [h]
    · rfl
  rw [e]
theorem wV_wW (M : fM) (k : Nat) (v : Int) (D D' : Nat → Nat → Int) : wW (wV M k v D) D' = wV M k v D' := wW_wW _ _ _
theorem cW_W {M : fM} {D : Nat → Nat → Int} {w : Nat} {p : Int} : cW (wW M D) w p = cW M w p := by
  funext k v
  unfold cW eW
  rw [wW_ne (by decide), show lL (wW M D) = lL M from funext fun q => wW_ne (by decide)]
set_option maxHeartbeats 4000000 in
set_option maxRecDepth 100000 in
theorem m_weak_l {g : fG} {M : fM} {w : Nat} {p : Int} (hn : nOk M w p) {k : Nat} {y : Int} (hk : k < 2 * w - 1) :
    ∀ (n : Nat) (v : Nat) (x : Int) (D : Nat → Nat → Int), ((v + n : Nat) : Int) = p → (0 ≤ x ∧ x < p) → fAt g Y_X7_weak 39 [some (vr 22 0), some (vi (k : Int)), some (vi y), some (vi (lL M k)), some (vi (wkN (cW M w p k) v)), some (vi (wkF (cW M w p k) v)), some (vi (v : Int))] [] (wV M k x D) (fI (fun z M' => z = (if y = 0 then wkN (cW M w p k) p.toNat else wkF (cW M w p k) p.toNat) ∧ mS M M')) := by
  have hw1 := hn.2.2.2.1
  have hp2 := hn.2.2.1.1
  intro n
  induction n with
  | zero =>
    intro v x D hm hx
    refine st_iload dX7_weak_39 rfl ?_
    refine st_aload_n dX7_weak_41 rfl ?_
    refine st_getr (i' := 0) dX7_weak_42 fl_X7_7 rfl rfl rfl (fun _ => by decide) ?_
    refine st_iconst dX7_weak_45 (by decide) ?_
    refine st_iald (j := 2) dX7_weak_46 rfl rfl rfl rfl (by decide) ?_
    refine fAt_v (x' := p) (wV_n hn hk hx).2.1 ?_
    refine st_icmp_ge 96 dX7_weak_47 (by decide) (fun h47 => ?_) (fun h47 => ?_)
    · skip
      refine st_aload_n dX7_weak_96 rfl ?_
      refine st_getr (i' := 0) dX7_weak_97 fl_X7_7 rfl rfl rfl (fun _ => by decide) ?_
      refine st_iconst dX7_weak_100 (by decide) ?_
      refine st_iload_n dX7_weak_101 rfl ?_
      refine st_iadd dX7_weak_102 (by omega) ?_
      refine st_iload_n dX7_weak_103 rfl ?_
      refine st_iast (j := (4 + k)) dX7_weak_104 rfl rfl rfl (by omega) (by omega) ?_
      refine fAt_m ((wV_up M k x (lL M k) D).trans (wV_b M k D)) ?_
      refine st_iload_n dX7_weak_105 rfl ?_
      refine st_if_ne 114 dX7_weak_106 (by decide) (fun h106 => ?_) (fun h106 => ?_)
      · skip
        refine st_iload dX7_weak_114 rfl ?_
        refine st_ireturn dX7_weak_116 rfl ⟨_, rfl, ⟨?_, mS_W⟩⟩
        have e : p.toNat = v := by omega
        rw [e]
        first | rw [if_pos h106] | rw [if_neg h106]
      · skip
        refine st_iload dX7_weak_109 rfl ?_
        refine st_goto 116 dX7_weak_111 (by decide) ?_
        refine st_ireturn dX7_weak_116 rfl ⟨_, rfl, ⟨?_, mS_W⟩⟩
        have e : p.toNat = v := by omega
        rw [e]
        first | rw [if_pos h106] | rw [if_neg h106]
    · skip
      exact absurd h47 (by omega)
  | succ n ih =>
    intro v x D hm hx
    refine st_iload dX7_weak_39 rfl ?_
    refine st_aload_n dX7_weak_41 rfl ?_
    refine st_getr (i' := 0) dX7_weak_42 fl_X7_7 rfl rfl rfl (fun _ => by decide) ?_
    refine st_iconst dX7_weak_45 (by decide) ?_
    refine st_iald (j := 2) dX7_weak_46 rfl rfl rfl rfl (by decide) ?_
    refine fAt_v (x' := p) (wV_n hn hk hx).2.1 ?_
    refine st_icmp_ge 96 dX7_weak_47 (by decide) (fun h47 => ?_) (fun h47 => ?_)
    · skip
      exact absurd h47 (by omega)
    · skip
      refine st_aload_n dX7_weak_50 rfl ?_
      refine st_getr (i' := 0) dX7_weak_51 fl_X7_7 rfl rfl rfl (fun _ => by decide) ?_
      refine st_iconst dX7_weak_54 (by decide) ?_
      refine st_iload_n dX7_weak_55 rfl ?_
      refine st_iadd dX7_weak_56 (by omega) ?_
      refine st_iload dX7_weak_57 rfl ?_
      refine st_iast (j := (4 + k)) dX7_weak_59 rfl rfl rfl (by omega) (by omega) ?_
      refine fAt_m (wV_up M k x (v : Int) D) ?_
      refine st_aload_n dX7_weak_60 rfl ?_
      refine st_aload_n dX7_weak_61 rfl ?_
      refine st_getr (i' := 0) dX7_weak_62 fl_X7_7 rfl rfl rfl (fun _ => by decide) ?_
      refine st_iconst dX7_weak_65 (by decide) ?_
      refine st_iald (j := 0) dX7_weak_66 rfl rfl rfl rfl (by decide) ?_
      refine fAt_v (x' := (w : Int)) (wV_n hn hk ⟨by omega, by omega⟩).1 ?_
      refine st_callVi [vi (w : Int)] [] dX7_weak_67 vl_X7_117 rfl rfl rfl rfl (Nat.le_of_ble_eq_true rfl) (by decide) (m_cornerOf (wV_n hn hk ⟨by omega, by omega⟩) (Nat.le_refl w)) (fun z Mc qc => ?_)
      obtain ⟨rfl, D2, q⟩ := qc
      subst Mc
      rw [eN_V]
      refine fAt_m (wV_wW M k (v : Int) D D2) ?_
      refine st_if_ne 90 dX7_weak_70 (by decide) (fun h70 => ?_) (fun h70 => ?_)
      · skip
        refine st_iinc (ls' := [some (vr 22 0), some (vi (k : Int)), some (vi y), some (vi (lL M k)), some (vi (wkN (cW M w p k) v)), some (vi (wkF (cW M w p k) v)), some (vi ((v : Int) + 1))]) dX7_weak_90 rfl (by omega) (by decide) rfl rfl ?_
        refine st_goto 39 dX7_weak_93 (by decide) ?_
        have hc : cW M w p k v = dt w (eW M w p k (v : Int)) % p := rfl
        rw [← hc] at h70
        refine fAt_ls (ls' := [some (vr 22 0), some (vi (k : Int)), some (vi y), some (vi (lL M k)), some (vi (wkN (cW M w p k) (v + 1))), some (vi (wkF (cW M w p k) (v + 1))), some (vi ((v + 1 : Nat) : Int))]) (by
          first
          | (rw [show wkN (cW M w p k) (v + 1) = wkN (cW M w p k) v + 1 by show (if cW M w p k v = 0 then _ else _) = _; rw [if_pos h70]]; rw [show wkF (cW M w p k) (v + 1) = (v : Int) by show (if cW M w p k v = 0 then (if wkN (cW M w p k) v = 0 then (v : Int) else _) else _) = _; rw [if_pos h70, if_pos h75]]; rfl)
          | (rw [show wkN (cW M w p k) (v + 1) = wkN (cW M w p k) v + 1 by show (if cW M w p k v = 0 then _ else _) = _; rw [if_pos h70]]; rw [show wkF (cW M w p k) (v + 1) = wkF (cW M w p k) v by show (if cW M w p k v = 0 then (if wkN (cW M w p k) v = 0 then (v : Int) else _) else _) = _; rw [if_pos h70, if_neg h75]]; rfl)
          | (rw [show wkN (cW M w p k) (v + 1) = wkN (cW M w p k) v by show (if cW M w p k v = 0 then _ else _) = _; rw [if_neg h70]]; rw [show wkF (cW M w p k) (v + 1) = wkF (cW M w p k) v by show (if cW M w p k v = 0 then _ else _) = _; rw [if_neg h70]]; rfl)) ?_
        exact ih (v + 1) (v : Int) D2 (by omega) ⟨by omega, by omega⟩
      · skip
        refine st_iload dX7_weak_73 rfl ?_
        refine st_if_ne 83 dX7_weak_75 (by decide) (fun h75 => ?_) (fun h75 => ?_)
        · skip
          refine st_iload dX7_weak_83 rfl ?_
          refine st_istore (ls' := [some (vr 22 0), some (vi (k : Int)), some (vi y), some (vi (lL M k)), some (vi (wkN (cW M w p k) v)), some (vi (wkF (cW M w p k) v)), some (vi (v : Int))]) dX7_weak_85 (by decide) rfl rfl ?_
          refine st_iinc (ls' := [some (vr 22 0), some (vi (k : Int)), some (vi y), some (vi (lL M k)), some (vi ((wkN (cW M w p k) v) + 1)), some (vi (wkF (cW M w p k) v)), some (vi (v : Int))]) dX7_weak_87 rfl (by have := wkN_b (cW M w p k) v; omega) (by decide) rfl rfl ?_
          refine st_iinc (ls' := [some (vr 22 0), some (vi (k : Int)), some (vi y), some (vi (lL M k)), some (vi ((wkN (cW M w p k) v) + 1)), some (vi (wkF (cW M w p k) v)), some (vi ((v : Int) + 1))]) dX7_weak_90 rfl (by omega) (by decide) rfl rfl ?_
          refine st_goto 39 dX7_weak_93 (by decide) ?_
          have hc : cW M w p k v = dt w (eW M w p k (v : Int)) % p := rfl
          rw [← hc] at h70
          refine fAt_ls (ls' := [some (vr 22 0), some (vi (k : Int)), some (vi y), some (vi (lL M k)), some (vi (wkN (cW M w p k) (v + 1))), some (vi (wkF (cW M w p k) (v + 1))), some (vi ((v + 1 : Nat) : Int))]) (by
            first
            | (rw [show wkN (cW M w p k) (v + 1) = wkN (cW M w p k) v + 1 by show (if cW M w p k v = 0 then _ else _) = _; rw [if_pos h70]]; rw [show wkF (cW M w p k) (v + 1) = (v : Int) by show (if cW M w p k v = 0 then (if wkN (cW M w p k) v = 0 then (v : Int) else _) else _) = _; rw [if_pos h70, if_pos h75]]; rfl)
            | (rw [show wkN (cW M w p k) (v + 1) = wkN (cW M w p k) v + 1 by show (if cW M w p k v = 0 then _ else _) = _; rw [if_pos h70]]; rw [show wkF (cW M w p k) (v + 1) = wkF (cW M w p k) v by show (if cW M w p k v = 0 then (if wkN (cW M w p k) v = 0 then (v : Int) else _) else _) = _; rw [if_pos h70, if_neg h75]]; rfl)
            | (rw [show wkN (cW M w p k) (v + 1) = wkN (cW M w p k) v by show (if cW M w p k v = 0 then _ else _) = _; rw [if_neg h70]]; rw [show wkF (cW M w p k) (v + 1) = wkF (cW M w p k) v by show (if cW M w p k v = 0 then _ else _) = _; rw [if_neg h70]]; rfl)) ?_
          exact ih (v + 1) (v : Int) D2 (by omega) ⟨by omega, by omega⟩
        · skip
          refine st_iload dX7_weak_78 rfl ?_
          refine st_goto 85 dX7_weak_80 (by decide) ?_
          refine st_istore (ls' := [some (vr 22 0), some (vi (k : Int)), some (vi y), some (vi (lL M k)), some (vi (wkN (cW M w p k) v)), some (vi (v : Int)), some (vi (v : Int))]) dX7_weak_85 (by decide) rfl rfl ?_
          refine st_iinc (ls' := [some (vr 22 0), some (vi (k : Int)), some (vi y), some (vi (lL M k)), some (vi ((wkN (cW M w p k) v) + 1)), some (vi (v : Int)), some (vi (v : Int))]) dX7_weak_87 rfl (by have := wkN_b (cW M w p k) v; omega) (by decide) rfl rfl ?_
          refine st_iinc (ls' := [some (vr 22 0), some (vi (k : Int)), some (vi y), some (vi (lL M k)), some (vi ((wkN (cW M w p k) v) + 1)), some (vi (v : Int)), some (vi ((v : Int) + 1))]) dX7_weak_90 rfl (by omega) (by decide) rfl rfl ?_
          refine st_goto 39 dX7_weak_93 (by decide) ?_
          have hc : cW M w p k v = dt w (eW M w p k (v : Int)) % p := rfl
          rw [← hc] at h70
          refine fAt_ls (ls' := [some (vr 22 0), some (vi (k : Int)), some (vi y), some (vi (lL M k)), some (vi (wkN (cW M w p k) (v + 1))), some (vi (wkF (cW M w p k) (v + 1))), some (vi ((v + 1 : Nat) : Int))]) (by
            first
            | (rw [show wkN (cW M w p k) (v + 1) = wkN (cW M w p k) v + 1 by show (if cW M w p k v = 0 then _ else _) = _; rw [if_pos h70]]; rw [show wkF (cW M w p k) (v + 1) = (v : Int) by show (if cW M w p k v = 0 then (if wkN (cW M w p k) v = 0 then (v : Int) else _) else _) = _; rw [if_pos h70, if_pos h75]]; rfl)
            | (rw [show wkN (cW M w p k) (v + 1) = wkN (cW M w p k) v + 1 by show (if cW M w p k v = 0 then _ else _) = _; rw [if_pos h70]]; rw [show wkF (cW M w p k) (v + 1) = wkF (cW M w p k) v by show (if cW M w p k v = 0 then (if wkN (cW M w p k) v = 0 then (v : Int) else _) else _) = _; rw [if_pos h70, if_neg h75]]; rfl)
            | (rw [show wkN (cW M w p k) (v + 1) = wkN (cW M w p k) v by show (if cW M w p k v = 0 then _ else _) = _; rw [if_neg h70]]; rw [show wkF (cW M w p k) (v + 1) = wkF (cW M w p k) v by show (if cW M w p k v = 0 then _ else _) = _; rw [if_neg h70]]; rfl)) ?_
          exact ih (v + 1) (v : Int) D2 (by omega) ⟨by omega, by omega⟩
set_option maxHeartbeats 4000000 in
set_option maxRecDepth 100000 in
theorem m_weak {g : fG} {M : fM} {w : Nat} {p : Int} (hn : nOk M w p) {x y : Int} :
    fCi g Y_X7_weak [vr 22 0, vi x, vi y] M (fun z M' => ((¬ ((0 ≤ x ∧ x < ((2 * w - 1 : Nat) : Int)) ∧ (y = 0 ∨ y = 1)) ∧ z = -1) ∨ (((0 ≤ x ∧ x < ((2 * w - 1 : Nat) : Int)) ∧ (y = 0 ∨ y = 1)) ∧ z = (if y = 0 then wkN (cW M w p x.toNat) p.toNat else wkF (cW M w p x.toNat) p.toNat))) ∧ mS M M') := by
  have hw1 := hn.2.2.2.1
  have hp2 := hn.2.2.1.1
  refine fCi_of _ [some (vr 22 0), some (vi x), some (vi y), none, none, none, none] (by decide) (Nat.le_of_ble_eq_true rfl) rfl (fun h => h) ?_
  refine st_aload_n dX7_weak_0 rfl ?_
  refine st_iload_n dX7_weak_1 rfl ?_
  refine st_callVi [vi x] [] dX7_weak_2 vl_X7_111 rfl rfl rfl rfl (Nat.le_of_ble_eq_true rfl) (by decide) (m_isLine hn.1 hn.2.2.2.1) (fun za Ma qa => ?_)
  obtain ⟨qa, rfl⟩ := qa
  rcases qa with ⟨rfl, aa⟩ | ⟨rfl, aa⟩
  · skip
    refine st_if_eq 18 dX7_weak_5 (by decide) (fun h5 => ?_) (fun h5 => ?_)
    · skip
      exact absurd h5 (by omega)
    · skip
      refine st_iload_n dX7_weak_8 rfl ?_
      refine st_i2l dX7_weak_9 ?_
      refine st_lconst0 dX7_weak_10 ?_
      refine st_lconst1 dX7_weak_11 ?_
      refine st_callSi [vl y, vl 0, vl 1] [] dX7_weak_12 sl_X7_57 rfl rfl (Nat.le_of_ble_eq_true rfl) (by decide) (m_in) (fun zb Mb qb => ?_)
      obtain ⟨qb, rfl⟩ := qb
      rcases qb with ⟨rfl, ab⟩ | ⟨rfl, ab⟩
      · skip
        refine st_if_ne 20 dX7_weak_15 (by decide) (fun h15 => ?_) (fun h15 => ?_)
        · skip
          refine st_aload_n dX7_weak_20 rfl ?_
          refine st_getr (i' := 0) dX7_weak_21 fl_X7_7 rfl rfl rfl (fun _ => by decide) ?_
          refine st_iconst dX7_weak_24 (by decide) ?_
          refine st_iload_n dX7_weak_25 rfl ?_
          refine st_iadd dX7_weak_26 (by omega) ?_
          refine st_iald (j := (4 + x.toNat)) dX7_weak_27 rfl rfl rfl (by omega) (by omega) ?_
          refine st_istore_n (ls' := [some (vr 22 0), some (vi x), some (vi y), some (vi (Mb 23 0 (4 + x.toNat))), none, none, none]) dX7_weak_28 (by decide) rfl rfl ?_
          refine st_iconst dX7_weak_29 (by decide) ?_
          refine st_istore (ls' := [some (vr 22 0), some (vi x), some (vi y), some (vi (Mb 23 0 (4 + x.toNat))), some (vi 0), none, none]) dX7_weak_30 (by decide) rfl rfl ?_
          refine st_bipush dX7_weak_32 (by decide) ?_
          refine st_istore (ls' := [some (vr 22 0), some (vi x), some (vi y), some (vi (Mb 23 0 (4 + x.toNat))), some (vi 0), some (vi (-4)), none]) dX7_weak_34 (by decide) rfl rfl ?_
          refine st_iconst dX7_weak_36 (by decide) ?_
          refine st_istore (ls' := [some (vr 22 0), some (vi x), some (vi y), some (vi (Mb 23 0 (4 + x.toNat))), some (vi 0), some (vi (-4)), some (vi 0)]) dX7_weak_37 (by decide) rfl rfl ?_
          refine fAt_ls (ls' := [some (vr 22 0), some (vi ((x.toNat : Nat) : Int)), some (vi y), some (vi (lL Mb x.toNat)), some (vi (wkN (cW Mb w p x.toNat) 0)), some (vi (wkF (cW Mb w p x.toNat) 0)), some (vi ((0 : Nat) : Int))]) (by rw [show ((x.toNat : Nat) : Int) = x by omega]; rfl) ?_
          refine fAt_m (wV_0 Mb x.toNat).symm ?_
          refine fAt_q (fun r M' h => ?_) (m_weak_l (k := x.toNat) (y := y) hn (by omega) p.toNat 0 _ _ (by omega) (hn.2.2.2.2.2.1 _ (by omega)))
          obtain ⟨z, e, h1, h2⟩ := h
          exact ⟨z, e, Or.inr ⟨⟨aa, by omega⟩, h1⟩, h2⟩
        · skip
          exact absurd h15 (by omega)
      · skip
        refine st_if_ne 20 dX7_weak_15 (by decide) (fun h15 => ?_) (fun h15 => ?_)
        · skip
          exact absurd h15 (by omega)
        · skip
          refine st_iconst dX7_weak_18 (by decide) ?_
          refine st_ireturn dX7_weak_19 rfl ⟨_, rfl, ⟨Or.inl ⟨by omega, rfl⟩, mS_r _⟩⟩
  · skip
    refine st_if_eq 18 dX7_weak_5 (by decide) (fun h5 => ?_) (fun h5 => ?_)
    · skip
      refine st_iconst dX7_weak_18 (by decide) ?_
      refine st_ireturn dX7_weak_19 rfl ⟨_, rfl, ⟨Or.inl ⟨by omega, rfl⟩, mS_r _⟩⟩
    · skip
      exact absurd h5 (by omega)
set_option maxHeartbeats 4000000 in
set_option maxRecDepth 100000 in
theorem mends_f {g : fG} {M : fM} {w : Nat} {p : Int} (hn : nOk M w p) {k f : Nat} {v x : Int} {D : Nat → Nat → Int} (hk : k < 2 * w - 1) (hx : 0 ≤ x ∧ x < p) : fAt g Y_X7_mends 15 [some (vr 22 0), some (vi (k : Int)), some (vi (lL M k)), some (vi (f : Int)), some (vi v)] [] (wV M k x D) (fI (fun z M' => z = (f : Int) ∧ ∃ D, M' = wW M D)) := by
  have hw1 := hn.2.2.2.1
  have hp2 := hn.2.2.1.1
  refine st_iload dX7_mends_15 rfl ?_
  refine st_aload_n dX7_mends_17 rfl ?_
  refine st_getr (i' := 0) dX7_mends_18 fl_X7_7 rfl rfl rfl (fun _ => by decide) ?_
  refine st_iconst dX7_mends_21 (by decide) ?_
  refine st_iald (j := 2) dX7_mends_22 rfl rfl rfl rfl (by decide) ?_
  refine fAt_v (x' := p) (wV_n hn hk hx).2.1 ?_
  refine st_icmp_ge 74 dX7_mends_23 (by decide) (fun h23 => ?_) (fun h23 => ?_)
  · skip
    refine st_aload_n dX7_mends_74 rfl ?_
    refine st_getr (i' := 0) dX7_mends_75 fl_X7_7 rfl rfl rfl (fun _ => by decide) ?_
    refine st_iconst dX7_mends_78 (by decide) ?_
    refine st_iload_n dX7_mends_79 rfl ?_
    refine st_iadd dX7_mends_80 (by omega) ?_
    refine st_iload_n dX7_mends_81 rfl ?_
    refine st_iast (j := (4 + k)) dX7_mends_82 rfl rfl rfl (by omega) (by omega) ?_
    refine fAt_m ((wV_up M k x (lL M k) D).trans (wV_b M k D)) ?_
    refine st_iload_n dX7_mends_83 rfl ?_
    refine st_ireturn dX7_mends_84 rfl ⟨_, rfl, ⟨rfl, D, rfl⟩⟩
  · skip
    refine st_iload_n dX7_mends_26 rfl ?_
    refine st_bipush dX7_mends_27 (by decide) ?_
    refine st_icmp_ne 74 dX7_mends_29 (by decide) (fun h29 => ?_) (fun h29 => ?_)
    · skip
      refine st_aload_n dX7_mends_74 rfl ?_
      refine st_getr (i' := 0) dX7_mends_75 fl_X7_7 rfl rfl rfl (fun _ => by decide) ?_
      refine st_iconst dX7_mends_78 (by decide) ?_
      refine st_iload_n dX7_mends_79 rfl ?_
      refine st_iadd dX7_mends_80 (by omega) ?_
      refine st_iload_n dX7_mends_81 rfl ?_
      refine st_iast (j := (4 + k)) dX7_mends_82 rfl rfl rfl (by omega) (by omega) ?_
      refine fAt_m ((wV_up M k x (lL M k) D).trans (wV_b M k D)) ?_
      refine st_iload_n dX7_mends_83 rfl ?_
      refine st_ireturn dX7_mends_84 rfl ⟨_, rfl, ⟨rfl, D, rfl⟩⟩
    · skip
      exact absurd h29 (by omega)
set_option maxHeartbeats 4000000 in
set_option maxRecDepth 100000 in
theorem m_mends_l {g : fG} {M : fM} {w : Nat} {p : Int} (hn : nOk M w p) {k : Nat} (hk : k < 2 * w - 1) (hd : dt w (eN M w p) % p = 0) :
    ∀ (n : Nat) (v : Nat) (x : Int) (D : Nat → Nat → Int), ((v + n : Nat) : Int) = p → (0 ≤ x ∧ x < p) → (∀ q, q < v → cW M w p k q = 0) → fAt g Y_X7_mends 15 [some (vr 22 0), some (vi (k : Int)), some (vi (lL M k)), some (vi (-4)), some (vi (v : Int))] [] (wV M k x D) (fI (fun z M' => z = fst (cW M w p k) 0 p.toNat ∧ ∃ D, M' = wW M D)) := by
  have hw1 := hn.2.2.2.1
  have hp2 := hn.2.2.1.1
  intro n
  induction n with
  | zero =>
    intro v x D hm hx h0
    refine st_iload dX7_mends_15 rfl ?_
    refine st_aload_n dX7_mends_17 rfl ?_
    refine st_getr (i' := 0) dX7_mends_18 fl_X7_7 rfl rfl rfl (fun _ => by decide) ?_
    refine st_iconst dX7_mends_21 (by decide) ?_
    refine st_iald (j := 2) dX7_mends_22 rfl rfl rfl rfl (by decide) ?_
    refine fAt_v (x' := p) (wV_n hn hk hx).2.1 ?_
    refine st_icmp_ge 74 dX7_mends_23 (by decide) (fun h23 => ?_) (fun h23 => ?_)
    · skip
      refine st_aload_n dX7_mends_74 rfl ?_
      refine st_getr (i' := 0) dX7_mends_75 fl_X7_7 rfl rfl rfl (fun _ => by decide) ?_
      refine st_iconst dX7_mends_78 (by decide) ?_
      refine st_iload_n dX7_mends_79 rfl ?_
      refine st_iadd dX7_mends_80 (by omega) ?_
      refine st_iload_n dX7_mends_81 rfl ?_
      refine st_iast (j := (4 + k)) dX7_mends_82 rfl rfl rfl (by omega) (by omega) ?_
      refine fAt_m ((wV_up M k x (lL M k) D).trans (wV_b M k D)) ?_
      refine st_iload_n dX7_mends_83 rfl ?_
      refine st_ireturn dX7_mends_84 rfl ⟨_, rfl, ⟨(fst_no (fun q hq => h0 q (by omega))).symm, D, rfl⟩⟩
    · skip
      exact absurd h23 (by omega)
  | succ n ih =>
    intro v x D hm hx h0
    refine st_iload dX7_mends_15 rfl ?_
    refine st_aload_n dX7_mends_17 rfl ?_
    refine st_getr (i' := 0) dX7_mends_18 fl_X7_7 rfl rfl rfl (fun _ => by decide) ?_
    refine st_iconst dX7_mends_21 (by decide) ?_
    refine st_iald (j := 2) dX7_mends_22 rfl rfl rfl rfl (by decide) ?_
    refine fAt_v (x' := p) (wV_n hn hk hx).2.1 ?_
    refine st_icmp_ge 74 dX7_mends_23 (by decide) (fun h23 => ?_) (fun h23 => ?_)
    · skip
      exact absurd h23 (by omega)
    · skip
      refine st_iload_n dX7_mends_26 rfl ?_
      refine st_bipush dX7_mends_27 (by decide) ?_
      refine st_icmp_ne 74 dX7_mends_29 (by decide) (fun h29 => ?_) (fun h29 => ?_)
      · skip
        exact absurd rfl h29
      · skip
        refine st_aload_n dX7_mends_32 rfl ?_
        refine st_getr (i' := 0) dX7_mends_33 fl_X7_7 rfl rfl rfl (fun _ => by decide) ?_
        refine st_iconst dX7_mends_36 (by decide) ?_
        refine st_iload_n dX7_mends_37 rfl ?_
        refine st_iadd dX7_mends_38 (by omega) ?_
        refine st_iload dX7_mends_39 rfl ?_
        refine st_iast (j := (4 + k)) dX7_mends_41 rfl rfl rfl (by omega) (by omega) ?_
        refine fAt_m (wV_up M k x (v : Int) D) ?_
        refine st_iload dX7_mends_42 rfl ?_
        refine st_iload_n dX7_mends_44 rfl ?_
        refine st_icmp_eq 66 dX7_mends_45 (by decide) (fun h45 => ?_) (fun h45 => ?_)
        · skip
          refine st_iload_n dX7_mends_66 rfl ?_
          refine st_istore_n (ls' := [some (vr 22 0), some (vi (k : Int)), some (vi (lL M k)), some (vi (-4)), some (vi (v : Int))]) dX7_mends_67 (by decide) rfl rfl ?_
          refine st_iinc (ls' := [some (vr 22 0), some (vi (k : Int)), some (vi (lL M k)), some (vi (-4)), some (vi ((v : Int) + 1))]) dX7_mends_68 rfl (by omega) (by decide) rfl rfl ?_
          refine st_goto 15 dX7_mends_71 (by decide) ?_
          first
          | exact ih (v + 1) (v : Int) D2 (by omega) ⟨by omega, by omega⟩ (fun q hq => by
              by_cases e : q = v
              · rw [e]; exact h58
              · exact h0 q (by omega))
          | exact ih (v + 1) (v : Int) D (by omega) ⟨by omega, by omega⟩ (fun q hq => by
              by_cases e : q = v
              · rw [e]
                show dt w (eW M w p k (v : Int)) % p = 0
                rw [h45, eW_self]
                exact hd
              · exact h0 q (by omega))
        · skip
          refine st_aload_n dX7_mends_48 rfl ?_
          refine st_aload_n dX7_mends_49 rfl ?_
          refine st_getr (i' := 0) dX7_mends_50 fl_X7_7 rfl rfl rfl (fun _ => by decide) ?_
          refine st_iconst dX7_mends_53 (by decide) ?_
          refine st_iald (j := 0) dX7_mends_54 rfl rfl rfl rfl (by decide) ?_
          refine fAt_v (x' := (w : Int)) (wV_n hn hk ⟨by omega, by omega⟩).1 ?_
          refine st_callVi [vi (w : Int)] [] dX7_mends_55 vl_X7_117 rfl rfl rfl rfl (Nat.le_of_ble_eq_true rfl) (by decide) (m_cornerOf (wV_n hn hk ⟨by omega, by omega⟩) (Nat.le_refl w)) (fun z Mc qc => ?_)
          obtain ⟨rfl, D2, q⟩ := qc
          subst Mc
          rw [eN_V]
          refine fAt_m (wV_wW M k (v : Int) D D2) ?_
          refine st_if_eq 66 dX7_mends_58 (by decide) (fun h58 => ?_) (fun h58 => ?_)
          · skip
            refine st_iload_n dX7_mends_66 rfl ?_
            refine st_istore_n (ls' := [some (vr 22 0), some (vi (k : Int)), some (vi (lL M k)), some (vi (-4)), some (vi (v : Int))]) dX7_mends_67 (by decide) rfl rfl ?_
            refine st_iinc (ls' := [some (vr 22 0), some (vi (k : Int)), some (vi (lL M k)), some (vi (-4)), some (vi ((v : Int) + 1))]) dX7_mends_68 rfl (by omega) (by decide) rfl rfl ?_
            refine st_goto 15 dX7_mends_71 (by decide) ?_
            first
            | exact ih (v + 1) (v : Int) D2 (by omega) ⟨by omega, by omega⟩ (fun q hq => by
                by_cases e : q = v
                · rw [e]; exact h58
                · exact h0 q (by omega))
            | exact ih (v + 1) (v : Int) D (by omega) ⟨by omega, by omega⟩ (fun q hq => by
                by_cases e : q = v
                · rw [e]
                  show dt w (eW M w p k (v : Int)) % p = 0
                  rw [h45, eW_self]
                  exact hd
                · exact h0 q (by omega))
          · skip
            refine st_iload dX7_mends_61 rfl ?_
            refine st_goto 67 dX7_mends_63 (by decide) ?_
            refine st_istore_n (ls' := [some (vr 22 0), some (vi (k : Int)), some (vi (lL M k)), some (vi (v : Int)), some (vi (v : Int))]) dX7_mends_67 (by decide) rfl rfl ?_
            refine st_iinc (ls' := [some (vr 22 0), some (vi (k : Int)), some (vi (lL M k)), some (vi (v : Int)), some (vi ((v : Int) + 1))]) dX7_mends_68 rfl (by omega) (by decide) rfl rfl ?_
            refine st_goto 15 dX7_mends_71 (by decide) ?_
            refine fAt_q (fun r M' h => ?_) (mends_f (f := v) (v := (v : Int) + 1) hn hk ⟨by omega, by omega⟩)
            obtain ⟨z, e, h1, h2⟩ := h
            exact ⟨z, e, by rw [h1]; exact (fst_at h0 h58 (by omega)).symm, h2⟩
set_option maxHeartbeats 4000000 in
set_option maxRecDepth 100000 in
theorem m_mends {g : fG} {M : fM} {w : Nat} {p : Int} (hn : nOk M w p) {k : Nat} (hk : k < 2 * w - 1) (hd : dt w (eN M w p) % p = 0) :
    fCi g Y_X7_mends [vr 22 0, vi (k : Int)] M (fun z M' => z = fst (cW M w p k) 0 p.toNat ∧ ∃ D, M' = wW M D) := by
  have hw1 := hn.2.2.2.1
  have hp2 := hn.2.2.1.1
  refine fCi_of _ [some (vr 22 0), some (vi (k : Int)), none, none, none] (by decide) (Nat.le_of_ble_eq_true rfl) rfl (fun h => h) ?_
  refine st_aload_n dX7_mends_0 rfl ?_
  refine st_getr (i' := 0) dX7_mends_1 fl_X7_7 rfl rfl rfl (fun _ => by decide) ?_
  refine st_iconst dX7_mends_4 (by decide) ?_
  refine st_iload_n dX7_mends_5 rfl ?_
  refine st_iadd dX7_mends_6 (by omega) ?_
  refine st_iald (j := (4 + k)) dX7_mends_7 rfl rfl rfl (by omega) (by omega) ?_
  refine st_istore_n (ls' := [some (vr 22 0), some (vi (k : Int)), some (vi (M 23 0 (4 + k))), none, none]) dX7_mends_8 (by decide) rfl rfl ?_
  refine st_bipush dX7_mends_9 (by decide) ?_
  refine st_istore_n (ls' := [some (vr 22 0), some (vi (k : Int)), some (vi (M 23 0 (4 + k))), some (vi (-4)), none]) dX7_mends_11 (by decide) rfl rfl ?_
  refine st_iconst dX7_mends_12 (by decide) ?_
  refine st_istore (ls' := [some (vr 22 0), some (vi (k : Int)), some (vi (M 23 0 (4 + k))), some (vi (-4)), some (vi 0)]) dX7_mends_13 (by decide) rfl rfl ?_
  refine fAt_m (wV_0 M k).symm ?_
  exact m_mends_l hn hk hd p.toNat 0 _ _ (by omega) (hn.2.2.2.2.2.1 k hk) (fun q hq => absurd hq (by omega))
set_option maxHeartbeats 4000000 in
set_option maxRecDepth 100000 in
theorem m_mend_l {g : fG} {M : fM} {w : Nat} {p : Int} (hn : nOk M w p) {y : Int} (hy : y = 0 ∨ y = 1) (hd : dt w (eN M w p) % p = 0) :
    ∀ (n : Nat) (t : Nat) (D : Nat → Nat → Int), t + 1 + n = 2 * w - 1 → (∀ q, q < t → fst (cW M w p q) 0 p.toNat = -4) → fAt g Y_X7_mend 36 [some (vr 22 0), some (vi y), some (vi (t : Int)), some (vi (fst (cW M w p t) 0 p.toNat))] [] (wW M D) (fI (fun z M' => z = mdS (fun k => fst (cW M w p k) 0 p.toNat) (2 * w - 1) y ∧ mS M M')) := by
  have hw1 := hn.2.2.2.1
  have hp2 := hn.2.2.1.1
  intro n
  induction n with
  | zero =>
    intro t D hm h0
    refine st_iload_n dX7_mend_36 rfl ?_
    refine st_bipush dX7_mend_37 (by decide) ?_
    refine st_icmp_ne 64 dX7_mend_39 (by decide) (fun h39 => ?_) (fun h39 => ?_)
    · skip
      refine st_iload_n dX7_mend_64 rfl ?_
      refine st_iconst dX7_mend_65 (by decide) ?_
      refine st_icmp_eq 75 dX7_mend_66 (by decide) (fun h66 => ?_) (fun h66 => ?_)
      · skip
        refine st_iload_n dX7_mend_75 rfl ?_
        refine st_goto 80 dX7_mend_76 (by decide) ?_
        refine st_ireturn dX7_mend_80 rfl ⟨_, rfl, ⟨?_, mS_W⟩⟩
        have hfc := fst_cases (cW M w p t) p.toNat
        unfold mdS
        first
        | (rw [if_pos (fst_no (f := fun k => fst (cW M w p k) 0 p.toNat) (fun q hq => by
            by_cases e : q = t
            · rw [e]; assumption
            · exact h0 q (by omega)))]; omega)
        | (rw [fst_at (f := fun k => fst (cW M w p k) 0 p.toNat) (v := t) h0 (by assumption) (by omega), if_neg (by omega)]
           first
           | (rw [if_pos (by omega)]; done)
           | (rw [if_neg (by omega)]; rfl))
      · skip
        refine st_iload_n dX7_mend_69 rfl ?_
        refine st_bipush dX7_mend_70 (by decide) ?_
        refine st_icmp_ne 79 dX7_mend_72 (by decide) (fun h72 => ?_) (fun h72 => ?_)
        · skip
          refine st_iload_n dX7_mend_79 rfl ?_
          refine st_ireturn dX7_mend_80 rfl ⟨_, rfl, ⟨?_, mS_W⟩⟩
          have hfc := fst_cases (cW M w p t) p.toNat
          unfold mdS
          first
          | (rw [if_pos (fst_no (f := fun k => fst (cW M w p k) 0 p.toNat) (fun q hq => by
              by_cases e : q = t
              · rw [e]; assumption
              · exact h0 q (by omega)))]; omega)
          | (rw [fst_at (f := fun k => fst (cW M w p k) 0 p.toNat) (v := t) h0 (by assumption) (by omega), if_neg (by omega)]
             first
             | (rw [if_pos (by omega)]; done)
             | (rw [if_neg (by omega)]; rfl))
        · skip
          refine st_iload_n dX7_mend_75 rfl ?_
          refine st_goto 80 dX7_mend_76 (by decide) ?_
          refine st_ireturn dX7_mend_80 rfl ⟨_, rfl, ⟨?_, mS_W⟩⟩
          have hfc := fst_cases (cW M w p t) p.toNat
          unfold mdS
          first
          | (rw [if_pos (fst_no (f := fun k => fst (cW M w p k) 0 p.toNat) (fun q hq => by
              by_cases e : q = t
              · rw [e]; assumption
              · exact h0 q (by omega)))]; omega)
          | (rw [fst_at (f := fun k => fst (cW M w p k) 0 p.toNat) (v := t) h0 (by assumption) (by omega), if_neg (by omega)]
             first
             | (rw [if_pos (by omega)]; done)
             | (rw [if_neg (by omega)]; rfl))
    · skip
      refine st_iload_n dX7_mend_42 rfl ?_
      refine st_iconst dX7_mend_43 (by decide) ?_
      refine st_iadd dX7_mend_44 (by omega) ?_
      refine st_aload_n dX7_mend_45 rfl ?_
      refine st_callVi [] [vi ((t : Int) + 1)] dX7_mend_46 vl_X7_61 rfl rfl rfl rfl (Nat.le_of_ble_eq_true rfl) (by decide) (m_lines (M := wW M D) (w := w) ((wW_ne (by decide)).trans hn.1) hn.2.2.2.1) (fun zl Ml ql => ?_)
      obtain ⟨rfl, q⟩ := ql
      subst Ml
      refine st_icmp_ge 64 dX7_mend_49 (by decide) (fun h49 => ?_) (fun h49 => ?_)
      · skip
        refine st_iload_n dX7_mend_64 rfl ?_
        refine st_iconst dX7_mend_65 (by decide) ?_
        refine st_icmp_eq 75 dX7_mend_66 (by decide) (fun h66 => ?_) (fun h66 => ?_)
        · skip
          refine st_iload_n dX7_mend_75 rfl ?_
          refine st_goto 80 dX7_mend_76 (by decide) ?_
          refine st_ireturn dX7_mend_80 rfl ⟨_, rfl, ⟨?_, mS_W⟩⟩
          have hfc := fst_cases (cW M w p t) p.toNat
          unfold mdS
          first
          | (rw [if_pos (fst_no (f := fun k => fst (cW M w p k) 0 p.toNat) (fun q hq => by
              by_cases e : q = t
              · rw [e]; assumption
              · exact h0 q (by omega)))]; omega)
          | (rw [fst_at (f := fun k => fst (cW M w p k) 0 p.toNat) (v := t) h0 (by assumption) (by omega), if_neg (by omega)]
             first
             | (rw [if_pos (by omega)]; done)
             | (rw [if_neg (by omega)]; rfl))
        · skip
          refine st_iload_n dX7_mend_69 rfl ?_
          refine st_bipush dX7_mend_70 (by decide) ?_
          refine st_icmp_ne 79 dX7_mend_72 (by decide) (fun h72 => ?_) (fun h72 => ?_)
          · skip
            refine st_iload_n dX7_mend_79 rfl ?_
            refine st_ireturn dX7_mend_80 rfl ⟨_, rfl, ⟨?_, mS_W⟩⟩
            have hfc := fst_cases (cW M w p t) p.toNat
            unfold mdS
            first
            | (rw [if_pos (fst_no (f := fun k => fst (cW M w p k) 0 p.toNat) (fun q hq => by
                by_cases e : q = t
                · rw [e]; assumption
                · exact h0 q (by omega)))]; omega)
            | (rw [fst_at (f := fun k => fst (cW M w p k) 0 p.toNat) (v := t) h0 (by assumption) (by omega), if_neg (by omega)]
               first
               | (rw [if_pos (by omega)]; done)
               | (rw [if_neg (by omega)]; rfl))
          · skip
            refine st_iload_n dX7_mend_75 rfl ?_
            refine st_goto 80 dX7_mend_76 (by decide) ?_
            refine st_ireturn dX7_mend_80 rfl ⟨_, rfl, ⟨?_, mS_W⟩⟩
            have hfc := fst_cases (cW M w p t) p.toNat
            unfold mdS
            first
            | (rw [if_pos (fst_no (f := fun k => fst (cW M w p k) 0 p.toNat) (fun q hq => by
                by_cases e : q = t
                · rw [e]; assumption
                · exact h0 q (by omega)))]; omega)
            | (rw [fst_at (f := fun k => fst (cW M w p k) 0 p.toNat) (v := t) h0 (by assumption) (by omega), if_neg (by omega)]
               first
               | (rw [if_pos (by omega)]; done)
               | (rw [if_neg (by omega)]; rfl))
      · skip
        exact absurd h49 (by omega)
  | succ n ih =>
    intro t D hm h0
    refine st_iload_n dX7_mend_36 rfl ?_
    refine st_bipush dX7_mend_37 (by decide) ?_
    refine st_icmp_ne 64 dX7_mend_39 (by decide) (fun h39 => ?_) (fun h39 => ?_)
    · skip
      refine st_iload_n dX7_mend_64 rfl ?_
      refine st_iconst dX7_mend_65 (by decide) ?_
      refine st_icmp_eq 75 dX7_mend_66 (by decide) (fun h66 => ?_) (fun h66 => ?_)
      · skip
        refine st_iload_n dX7_mend_75 rfl ?_
        refine st_goto 80 dX7_mend_76 (by decide) ?_
        refine st_ireturn dX7_mend_80 rfl ⟨_, rfl, ⟨?_, mS_W⟩⟩
        have hfc := fst_cases (cW M w p t) p.toNat
        unfold mdS
        first
        | (rw [if_pos (fst_no (f := fun k => fst (cW M w p k) 0 p.toNat) (fun q hq => by
            by_cases e : q = t
            · rw [e]; assumption
            · exact h0 q (by omega)))]; omega)
        | (rw [fst_at (f := fun k => fst (cW M w p k) 0 p.toNat) (v := t) h0 (by assumption) (by omega), if_neg (by omega)]
           first
           | (rw [if_pos (by omega)]; done)
           | (rw [if_neg (by omega)]; rfl))
      · skip
        refine st_iload_n dX7_mend_69 rfl ?_
        refine st_bipush dX7_mend_70 (by decide) ?_
        refine st_icmp_ne 79 dX7_mend_72 (by decide) (fun h72 => ?_) (fun h72 => ?_)
        · skip
          refine st_iload_n dX7_mend_79 rfl ?_
          refine st_ireturn dX7_mend_80 rfl ⟨_, rfl, ⟨?_, mS_W⟩⟩
          have hfc := fst_cases (cW M w p t) p.toNat
          unfold mdS
          first
          | (rw [if_pos (fst_no (f := fun k => fst (cW M w p k) 0 p.toNat) (fun q hq => by
              by_cases e : q = t
              · rw [e]; assumption
              · exact h0 q (by omega)))]; omega)
          | (rw [fst_at (f := fun k => fst (cW M w p k) 0 p.toNat) (v := t) h0 (by assumption) (by omega), if_neg (by omega)]
             first
             | (rw [if_pos (by omega)]; done)
             | (rw [if_neg (by omega)]; rfl))
        · skip
          refine st_iload_n dX7_mend_75 rfl ?_
          refine st_goto 80 dX7_mend_76 (by decide) ?_
          refine st_ireturn dX7_mend_80 rfl ⟨_, rfl, ⟨?_, mS_W⟩⟩
          have hfc := fst_cases (cW M w p t) p.toNat
          unfold mdS
          first
          | (rw [if_pos (fst_no (f := fun k => fst (cW M w p k) 0 p.toNat) (fun q hq => by
              by_cases e : q = t
              · rw [e]; assumption
              · exact h0 q (by omega)))]; omega)
          | (rw [fst_at (f := fun k => fst (cW M w p k) 0 p.toNat) (v := t) h0 (by assumption) (by omega), if_neg (by omega)]
             first
             | (rw [if_pos (by omega)]; done)
             | (rw [if_neg (by omega)]; rfl))
    · skip
      refine st_iload_n dX7_mend_42 rfl ?_
      refine st_iconst dX7_mend_43 (by decide) ?_
      refine st_iadd dX7_mend_44 (by omega) ?_
      refine st_aload_n dX7_mend_45 rfl ?_
      refine st_callVi [] [vi ((t : Int) + 1)] dX7_mend_46 vl_X7_61 rfl rfl rfl rfl (Nat.le_of_ble_eq_true rfl) (by decide) (m_lines (M := wW M D) (w := w) ((wW_ne (by decide)).trans hn.1) hn.2.2.2.1) (fun zl Ml ql => ?_)
      obtain ⟨rfl, q⟩ := ql
      subst Ml
      refine st_icmp_ge 64 dX7_mend_49 (by decide) (fun h49 => ?_) (fun h49 => ?_)
      · skip
        exact absurd h49 (by omega)
      · skip
        refine st_iinc (ls' := [some (vr 22 0), some (vi y), some (vi ((t : Int) + 1)), some (vi (fst (cW M w p t) 0 p.toNat))]) dX7_mend_52 rfl (by omega) (by decide) rfl rfl ?_
        refine st_aload_n dX7_mend_55 rfl ?_
        refine st_iload_n dX7_mend_56 rfl ?_
        refine fAt_v (x' := ((t + 1 : Nat) : Int)) (by omega) ?_
        refine st_callVi [vi (((t + 1) : Nat) : Int)] [] dX7_mend_57 vl_X7_191 rfl rfl rfl rfl (Nat.le_of_ble_eq_true rfl) (by decide) (m_mends (M := wW M D) (k := t + 1) (nOk_S hn mS_W) (by omega) (by rw [eN_S mS_W]; exact hd)) (fun zm Mm qm => ?_)
        obtain ⟨rfl, D2, q⟩ := qm
        subst Mm
        rw [cW_W]
        refine fAt_m (wW_wW M D D2) ?_
        refine st_istore_n (ls' := [some (vr 22 0), some (vi y), some (vi ((t : Int) + 1)), some (vi (fst (cW M w p (t + 1)) 0 p.toNat))]) dX7_mend_60 (by decide) rfl rfl ?_
        refine st_goto 36 dX7_mend_61 (by decide) ?_
        exact ih (t + 1) D2 (by omega) (fun q hq => by
          by_cases e : q = t
          · rw [e]; assumption
          · exact h0 q (by omega))
set_option maxHeartbeats 4000000 in
set_option maxRecDepth 100000 in
theorem m_mend {g : fG} {M : fM} {w : Nat} {p : Int} (hn : nOk M w p) {y : Int} :
    fCi g Y_X7_mend [vr 22 0, vi y] M (fun z M' => ((¬ (y = 0 ∨ y = 1) ∧ z = -1) ∨ ((y = 0 ∨ y = 1) ∧ ((dt w (eN M w p) % p ≠ 0 ∧ z = -2) ∨ (dt w (eN M w p) % p = 0 ∧ z = mdS (fun k => fst (cW M w p k) 0 p.toNat) (2 * w - 1) y)))) ∧ mS M M') := by
  have hw1 := hn.2.2.2.1
  have hp2 := hn.2.2.1.1
  refine fCi_of _ [some (vr 22 0), some (vi y), none, none] (by decide) (Nat.le_of_ble_eq_true rfl) rfl (fun h => h) ?_
  refine st_iload_n dX7_mend_0 rfl ?_
  refine st_i2l dX7_mend_1 ?_
  refine st_lconst0 dX7_mend_2 ?_
  refine st_lconst1 dX7_mend_3 ?_
  refine st_callSi [vl y, vl 0, vl 1] [] dX7_mend_4 sl_X7_57 rfl rfl (Nat.le_of_ble_eq_true rfl) (by decide) (m_in) (fun za Ma qa => ?_)
  obtain ⟨qa, rfl⟩ := qa
  rcases qa with ⟨rfl, aa⟩ | ⟨rfl, aa⟩
  · skip
    refine st_if_ne 12 dX7_mend_7 (by decide) (fun h7 => ?_) (fun h7 => ?_)
    · skip
      refine st_aload_n dX7_mend_12 rfl ?_
      refine st_aload_n dX7_mend_13 rfl ?_
      refine st_getr (i' := 0) dX7_mend_14 fl_X7_7 rfl rfl rfl (fun _ => by decide) ?_
      refine st_iconst dX7_mend_17 (by decide) ?_
      refine st_iald (j := 0) dX7_mend_18 rfl rfl rfl rfl (by decide) ?_
      refine fAt_v (x' := (w : Int)) hn.1 ?_
      refine st_callVi [vi (w : Int)] [] dX7_mend_19 vl_X7_117 rfl rfl rfl rfl (Nat.le_of_ble_eq_true rfl) (by decide) (m_cornerOf hn (Nat.le_refl w)) (fun z Mc qc => ?_)
      obtain ⟨rfl, D, q⟩ := qc
      subst Mc
      refine st_if_eq 28 dX7_mend_22 (by decide) (fun h22 => ?_) (fun h22 => ?_)
      · skip
        refine st_iconst dX7_mend_28 (by decide) ?_
        refine st_istore_n (ls' := [some (vr 22 0), some (vi y), some (vi 0), none]) dX7_mend_29 (by decide) rfl rfl ?_
        refine st_aload_n dX7_mend_30 rfl ?_
        refine st_iconst dX7_mend_31 (by decide) ?_
        refine st_callVi [vi 0] [] dX7_mend_32 vl_X7_191 rfl rfl rfl rfl (Nat.le_of_ble_eq_true rfl) (by decide) (m_mends (M := wW Ma D) (k := 0) (nOk_S hn mS_W) (by omega) (by rw [eN_S mS_W]; exact h22)) (fun zm Mm qm => ?_)
        obtain ⟨rfl, D2, q⟩ := qm
        subst Mm
        rw [cW_W]
        refine fAt_m (wW_wW Ma D D2) ?_
        refine st_istore_n (ls' := [some (vr 22 0), some (vi y), some (vi 0), some (vi (fst (cW Ma w p 0) 0 p.toNat))]) dX7_mend_35 (by decide) rfl rfl ?_
        refine fAt_q (fun r M' h => ?_) (m_mend_l hn (by omega) h22 (2 * w - 2) 0 D2 (by omega) (fun q hq => absurd hq (by omega)))
        obtain ⟨z, e, h1, h2⟩ := h
        exact ⟨z, e, Or.inr ⟨by omega, Or.inr ⟨h22, h1⟩⟩, h2⟩
      · skip
        refine st_bipush dX7_mend_25 (by decide) ?_
        refine st_ireturn dX7_mend_27 rfl ⟨_, rfl, ⟨Or.inr ⟨by omega, Or.inl ⟨h22, rfl⟩⟩, mS_W⟩⟩
    · skip
      exact absurd h7 (by omega)
  · skip
    refine st_if_ne 12 dX7_mend_7 (by decide) (fun h7 => ?_) (fun h7 => ?_)
    · skip
      exact absurd h7 (by omega)
    · skip
      refine st_iconst dX7_mend_10 (by decide) ?_
      refine st_ireturn dX7_mend_11 rfl ⟨_, rfl, ⟨Or.inl ⟨by omega, rfl⟩, mS_r _⟩⟩
set_option maxHeartbeats 4000000 in
set_option maxRecDepth 100000 in
theorem m_term {g : fG} {M : fM} {w : Nat} {p : Int} (hn : nOk M w p) {x : Int} :
    fCi g Y_X7_term [vr 22 0, vi x] M (fun z M' => ((x ≤ 0 ∧ z = -1) ∨ ∃ l a, LawS p (lL M) (2 * w - 1) l a ∧ z = (if 1 ≤ x ∧ x ≤ ((l : Nat) : Int) then a (x.toNat - 1) else -1)) ∧ mS M M') := by
  have hw1 := hn.2.2.2.1
  have hp2 := hn.2.2.1.1
  refine fCi_of _ [some (vr 22 0), some (vi x)] (by decide) (Nat.le_of_ble_eq_true rfl) rfl (fun h => h) ?_
  refine st_iload_n dX7_term_0 rfl ?_
  refine st_if_le 21 dX7_term_1 (by decide) (fun h1 => ?_) (fun h1 => ?_)
  · skip
    refine st_iconst dX7_term_21 (by decide) ?_
    refine st_ireturn dX7_term_22 rfl ⟨_, rfl, ?_⟩
    first | exact ⟨Or.inl ⟨by omega, rfl⟩, mS_r _⟩ | exact ⟨Or.inr ⟨l, a, hL, by rw [if_pos (by omega)]⟩, hS⟩ | exact ⟨Or.inr ⟨l, a, hL, by rw [if_neg (by omega)]⟩, hS⟩
  · skip
    refine st_iload_n dX7_term_4 rfl ?_
    refine st_aload_n dX7_term_5 rfl ?_
    refine st_callVi [] [vi x] dX7_term_6 vl_X7_126 rfl rfl rfl rfl (Nat.le_of_ble_eq_true rfl) (by decide) (m_law hn) (fun z Ma qa => ?_)
    obtain ⟨l, a, rfl, hL, hT, hS⟩ := qa
    have hl := hL.1
    refine st_icmp_gt 21 dX7_term_9 (by decide) (fun h9 => ?_) (fun h9 => ?_)
    · skip
      refine st_iconst dX7_term_21 (by decide) ?_
      refine st_ireturn dX7_term_22 rfl ⟨_, rfl, ?_⟩
      first | exact ⟨Or.inl ⟨by omega, rfl⟩, mS_r _⟩ | exact ⟨Or.inr ⟨l, a, hL, by rw [if_pos (by omega)]⟩, hS⟩ | exact ⟨Or.inr ⟨l, a, hL, by rw [if_neg (by omega)]⟩, hS⟩
    · skip
      refine st_aload_n dX7_term_12 rfl ?_
      refine st_getr (i' := 0) dX7_term_13 fl_X7_28 rfl rfl rfl (fun _ => by decide) ?_
      refine st_iload_n dX7_term_16 rfl ?_
      refine st_iald (j := x.toNat) dX7_term_17 rfl rfl rfl (by omega) (by omega) ?_
      refine fAt_v (x' := a (x.toNat - 1)) (by have h := hT (x.toNat - 1) (by omega); rw [show x.toNat - 1 + 1 = x.toNat by omega] at h; exact h) ?_
      refine st_goto 22 dX7_term_18 (by decide) ?_
      refine st_ireturn dX7_term_22 rfl ⟨_, rfl, ?_⟩
      first | exact ⟨Or.inl ⟨by omega, rfl⟩, mS_r _⟩ | exact ⟨Or.inr ⟨l, a, hL, by rw [if_pos (by omega)]⟩, hS⟩ | exact ⟨Or.inr ⟨l, a, hL, by rw [if_neg (by omega)]⟩, hS⟩
set_option maxHeartbeats 4000000 in
set_option maxRecDepth 100000 in
theorem m_next_i {g : fG} {M : fM} {w l j x : Nat} {p : Int} {a : Nat → Int} {N0 : fM} (hp : 2 ≤ p ∧ p ≤ 97) (hw : 1 ≤ w ∧ w ≤ 6) (hl : l ≤ 2 * w - 1) (hj : j ≤ 20) (ha : ∀ c, c < l → 0 ≤ a c ∧ a c < p) (hL : ∀ q, q < 2 * w - 1 → 0 ≤ lL M q ∧ lL M q < p) {Q : Option fV → fM → Prop} (h29 : ∀ c, c < l → N0 29 0 (c + 1) = a c) (h30 : ∀ q, q < 2 * w - 1 + j → N0 30 0 q = sqN p (lL M) (2 * w - 1) l a j q) (h1p : N0 23 0 2 = p)
    (hk : fAt g Y_X7_next 27 [some (vr 22 0), some (vi (x : Int)), some (vi (l : Int)), some (vi ((2 * w - 1 : Nat) : Int)), some (vi (((2 * w - 1 + j : Nat) : Int) + 1)), none, none] [] (fup N0 30 0 (2 * w - 1 + j) ((sm l (fun q => a q * sqN p (lL M) (2 * w - 1) l a j (2 * w - 1 + j - 1 - q))) % p)) Q) :
    ∀ (n : Nat) (m : Nat), m + n = l → fAt g Y_X7_next 41 [some (vr 22 0), some (vi (x : Int)), some (vi (l : Int)), some (vi (((2 * w - 1) : Nat) : Int)), some (vi (((2 * w - 1 + j) : Nat) : Int)), some (vi (sm m (fun q => a q * sqN p (lL M) (2 * w - 1) l a j (2 * w - 1 + j - 1 - q)))), some (vi ((m : Int) + 1))] [] N0 Q := by
  intro n
  induction n with
  | zero =>
    intro m hm
    refine st_iload dX7_next_41 rfl ?_
    refine st_iload_n dX7_next_43 rfl ?_
    refine st_icmp_gt 82 dX7_next_44 (by decide) (fun h44 => ?_) (fun h44 => ?_)
    · skip
      refine st_aload_n dX7_next_82 rfl ?_
      refine st_getr (i' := 0) dX7_next_83 fl_X7_31 rfl rfl rfl (fun _ => by decide) ?_
      refine st_iload dX7_next_86 rfl ?_
      refine st_iload dX7_next_88 rfl ?_
      refine st_iload_n dX7_next_90 rfl ?_
      refine st_icmp_ge 106 dX7_next_91 (by decide) (fun h91 => ?_) (fun h91 => ?_)
      · skip
        refine st_iload dX7_next_106 rfl ?_
        refine st_aload_n dX7_next_108 rfl ?_
        refine st_getr (i' := 0) dX7_next_109 fl_X7_7 rfl rfl rfl (fun _ => by decide) ?_
        refine st_iconst dX7_next_112 (by decide) ?_
        refine st_iald (j := 2) dX7_next_113 rfl rfl rfl rfl (by decide) ?_
        refine fAt_v (x' := p) h1p ?_
        refine st_irem dX7_next_114 (by have hb1 := sm_b (f := fun q => a q * sqN p (lL M) (2 * w - 1) l a j (2 * w - 1 + j - 1 - q)) (n := m) (fun i hi => mulb (a := 97) (b := 97) (ha i (by omega)).1 (sqN_rng (by omega) hL j _ (by omega)).1 (by have := (ha i (by omega)).2; omega) (by have := (sqN_rng (l := l) (a := a) (p := p) (by omega) hL j (2 * w - 1 + j - 1 - i) (by omega)).2; omega)); exact hb1.1) (by omega) ?_
        refine st_iast (j := (2 * w - 1 + j)) dX7_next_115 rfl rfl rfl rfl (by omega) ?_
        refine st_iinc (ls' := [some (vr 22 0), some (vi (x : Int)), some (vi (l : Int)), some (vi (((2 * w - 1) : Nat) : Int)), some (vi ((((2 * w - 1 + j) : Nat) : Int) + 1)), some (vi (sm m (fun q => a q * sqN p (lL M) (2 * w - 1) l a j (2 * w - 1 + j - 1 - q)))), some (vi ((m : Int) + 1))]) dX7_next_116 rfl (by omega) (by decide) rfl rfl ?_
        refine st_goto 27 dX7_next_119 (by decide) ?_
        refine fAt_del 5 rfl ?_
        refine fAt_del 6 rfl ?_
        refine fAt_m (show _ = fup N0 30 0 (2 * w - 1 + j) ((sm l (fun q => a q * sqN p (lL M) (2 * w - 1) l a j (2 * w - 1 + j - 1 - q))) % p) from by rw [show m = l by omega]) ?_
        exact hk
      · skip
        exact absurd h91 (by omega)
    · skip
      exact absurd h44 (by omega)
  | succ n ih =>
    intro m hm
    refine st_iload dX7_next_41 rfl ?_
    refine st_iload_n dX7_next_43 rfl ?_
    refine st_icmp_gt 82 dX7_next_44 (by decide) (fun h44 => ?_) (fun h44 => ?_)
    · skip
      exact absurd h44 (by omega)
    · skip
      refine st_iload dX7_next_47 rfl ?_
      refine st_iload_n dX7_next_49 rfl ?_
      refine st_icmp_lt 82 dX7_next_50 (by decide) (fun h50 => ?_) (fun h50 => ?_)
      · skip
        exact absurd h50 (by omega)
      · skip
        have hb1 := sm_b (f := fun q => a q * sqN p (lL M) (2 * w - 1) l a j (2 * w - 1 + j - 1 - q)) (n := m) (fun i hi => mulb (a := 97) (b := 97) (ha i (by omega)).1 (sqN_rng (by omega) hL j _ (by omega)).1 (by have := (ha i (by omega)).2; omega) (by have := (sqN_rng (l := l) (a := a) (p := p) (by omega) hL j (2 * w - 1 + j - 1 - i) (by omega)).2; omega))
        have hb2 := mulb (x := a m) (y := sqN p (lL M) (2 * w - 1) l a j (2 * w - 1 + j - 1 - m)) (a := 97) (b := 97) (ha m (by omega)).1 (sqN_rng (by omega) hL j _ (by omega)).1 (by have := (ha m (by omega)).2; omega) (by have := (sqN_rng (l := l) (a := a) (p := p) (by omega) hL j (2 * w - 1 + j - 1 - m) (by omega)).2; omega)
        refine st_iload dX7_next_53 rfl ?_
        refine st_aload_n dX7_next_55 rfl ?_
        refine st_getr (i' := 0) dX7_next_56 fl_X7_28 rfl rfl rfl (fun _ => by decide) ?_
        refine st_iload dX7_next_59 rfl ?_
        refine st_iald (j := (m + 1)) dX7_next_61 rfl rfl rfl (by omega) (by omega) ?_
        refine fAt_v (x' := a m) (h29 m (by omega)) ?_
        refine st_aload_n dX7_next_62 rfl ?_
        refine st_getr (i' := 0) dX7_next_63 fl_X7_31 rfl rfl rfl (fun _ => by decide) ?_
        refine st_iload dX7_next_66 rfl ?_
        refine st_iload dX7_next_68 rfl ?_
        refine st_isub dX7_next_70 (by omega) ?_
        refine st_iald (j := (2 * w - 1 + j - 1 - m)) dX7_next_71 rfl rfl rfl (by omega) (by omega) ?_
        refine fAt_v (x' := sqN p (lL M) (2 * w - 1) l a j (2 * w - 1 + j - 1 - m)) (h30 _ (by omega)) ?_
        refine st_imul dX7_next_72 (by omega) ?_
        refine st_iadd dX7_next_73 (by omega) ?_
        refine st_istore (ls' := [some (vr 22 0), some (vi (x : Int)), some (vi (l : Int)), some (vi (((2 * w - 1) : Nat) : Int)), some (vi (((2 * w - 1 + j) : Nat) : Int)), some (vi ((sm m (fun q => a q * sqN p (lL M) (2 * w - 1) l a j (2 * w - 1 + j - 1 - q))) + ((a m) * (sqN p (lL M) (2 * w - 1) l a j (2 * w - 1 + j - 1 - m))))), some (vi ((m : Int) + 1))]) dX7_next_74 (by decide) rfl rfl ?_
        refine st_iinc (ls' := [some (vr 22 0), some (vi (x : Int)), some (vi (l : Int)), some (vi (((2 * w - 1) : Nat) : Int)), some (vi (((2 * w - 1 + j) : Nat) : Int)), some (vi ((sm m (fun q => a q * sqN p (lL M) (2 * w - 1) l a j (2 * w - 1 + j - 1 - q))) + ((a m) * (sqN p (lL M) (2 * w - 1) l a j (2 * w - 1 + j - 1 - m))))), some (vi (((m : Int) + 1) + 1))]) dX7_next_76 rfl (by omega) (by decide) rfl rfl ?_
        refine st_goto 41 dX7_next_79 (by decide) ?_
        exact ih (m + 1) (by omega)
set_option maxHeartbeats 4000000 in
set_option maxRecDepth 100000 in
theorem m_next_2 {g : fG} {M : fM} {w l x : Nat} {p : Int} {a : Nat → Int} (hp : 2 ≤ p ∧ p ≤ 97) (hw : 1 ≤ w ∧ w ≤ 6) (hl : l ≤ 2 * w - 1) (hx : x ≤ 20) (ha : ∀ c, c < l → 0 ≤ a c ∧ a c < p) (hL : ∀ q, q < 2 * w - 1 → 0 ≤ lL M q ∧ lL M q < p) (hpM : M 23 0 2 = p) :
    ∀ (n : Nat) (j : Nat) (N0 : fM), j + n = x + 1 → (∀ c, c < l → N0 29 0 (c + 1) = a c) → (∀ q, q < 2 * w - 1 + j → N0 30 0 q = sqN p (lL M) (2 * w - 1) l a j q) → mS M N0 → fAt g Y_X7_next 27 [some (vr 22 0), some (vi (x : Int)), some (vi (l : Int)), some (vi (((2 * w - 1) : Nat) : Int)), some (vi (((2 * w - 1 + j) : Nat) : Int)), none, none] [] N0 (fI (fun z M' => z = sqN p (lL M) (2 * w - 1) l a (x + 1) (2 * w - 1 + x) ∧ mS M M')) := by
  intro n
  induction n with
  | zero =>
    intro j N0 hm h29 h30 hS
    refine st_iload dX7_next_27 rfl ?_
    refine st_iload_n dX7_next_29 rfl ?_
    refine st_iload_n dX7_next_30 rfl ?_
    refine st_iadd dX7_next_31 (by omega) ?_
    refine st_icmp_gt 122 dX7_next_32 (by decide) (fun h32 => ?_) (fun h32 => ?_)
    · skip
      refine st_aload_n dX7_next_122 rfl ?_
      refine st_getr (i' := 0) dX7_next_123 fl_X7_31 rfl rfl rfl (fun _ => by decide) ?_
      refine st_iload_n dX7_next_126 rfl ?_
      refine st_iload_n dX7_next_127 rfl ?_
      refine st_iadd dX7_next_128 (by omega) ?_
      refine st_iald (j := (2 * w - 1 + x)) dX7_next_129 rfl rfl rfl (by omega) (by omega) ?_
      refine fAt_v (x' := sqN p (lL M) (2 * w - 1) l a (x + 1) (2 * w - 1 + x)) (by rw [show x + 1 = j by omega]; exact h30 _ (by omega)) ?_
      refine st_ireturn dX7_next_130 rfl ⟨_, rfl, ⟨rfl, hS⟩⟩
    · skip
      exact absurd h32 (by omega)
  | succ n ih =>
    intro j N0 hm h29 h30 hS
    refine st_iload dX7_next_27 rfl ?_
    refine st_iload_n dX7_next_29 rfl ?_
    refine st_iload_n dX7_next_30 rfl ?_
    refine st_iadd dX7_next_31 (by omega) ?_
    refine st_icmp_gt 122 dX7_next_32 (by decide) (fun h32 => ?_) (fun h32 => ?_)
    · skip
      exact absurd h32 (by omega)
    · skip
      refine st_iconst dX7_next_35 (by decide) ?_
      refine st_istore (ls' := [some (vr 22 0), some (vi (x : Int)), some (vi (l : Int)), some (vi (((2 * w - 1) : Nat) : Int)), some (vi (((2 * w - 1 + j) : Nat) : Int)), some (vi 0), none]) dX7_next_36 (by decide) rfl rfl ?_
      refine st_iconst dX7_next_38 (by decide) ?_
      refine st_istore (ls' := [some (vr 22 0), some (vi (x : Int)), some (vi (l : Int)), some (vi (((2 * w - 1) : Nat) : Int)), some (vi (((2 * w - 1 + j) : Nat) : Int)), some (vi 0), some (vi 1)]) dX7_next_39 (by decide) rfl rfl ?_
      refine m_next_i hp hw hl (by omega) ha hL h29 h30 ((mS_n hS 2).trans hpM) ?_ l 0 (by omega)
      refine ih (j + 1) _ (by omega) (fun c hc => by rw [fup_ne (by omega)]; exact h29 c hc) (fun q hq => ?_) (fun k a b q1 q2 q3 q4 q5 q6 q7 => by rw [fup_ne (by omega)]; exact hS k a b q1 q2 q3 q4 q5 q6 q7)
      show _ = (if q = 2 * w - 1 + j then _ else _)
      by_cases e : q = 2 * w - 1 + j
      · rw [if_pos e, e, fup_eq]
      · rw [if_neg e, fup_ne (by omega)]; exact h30 q (by omega)
set_option maxHeartbeats 4000000 in
set_option maxRecDepth 100000 in
theorem m_next_1 {g : fG} {M : fM} {w l x : Nat} {p : Int} {a : Nat → Int} (hp : 2 ≤ p ∧ p ≤ 97) (hw : 1 ≤ w ∧ w ≤ 6) (hl : l ≤ 2 * w - 1) (hx : x ≤ 20) (ha : ∀ c, c < l → 0 ≤ a c ∧ a c < p) (hL : ∀ q, q < 2 * w - 1 → 0 ≤ lL M q ∧ lL M q < p) (hpM : M 23 0 2 = p) :
    ∀ (n t : Nat) (N0 : fM), t + n = 2 * w - 1 → (∀ c, c < l → N0 29 0 (c + 1) = a c) → (∀ q, q < t → N0 30 0 q = lL M q) → mS M N0 → fAt g Y_X7_next 27 [some (vr 22 0), some (vi (x : Int)), some (vi (l : Int)), some (vi (((2 * w - 1) : Nat) : Int)), some (vi (t : Int)), none, none] [] N0 (fI (fun z M' => z = sqN p (lL M) (2 * w - 1) l a (x + 1) (2 * w - 1 + x) ∧ mS M M')) := by
  intro n
  induction n with
  | zero =>
    intro t N0 hm h29 h30 hS
    refine fAt_ls (ls' := [some (vr 22 0), some (vi (x : Int)), some (vi (l : Int)), some (vi ((2 * w - 1 : Nat) : Int)), some (vi ((2 * w - 1 + 0 : Nat) : Int)), none, none]) (by rw [show t = 2 * w - 1 + 0 by omega]) ?_
    exact m_next_2 hp hw hl hx ha hL hpM (x + 1) 0 N0 (by omega) h29 (fun q hq => h30 q (by omega)) hS
  | succ n ih =>
    intro t N0 hm h29 h30 hS
    refine st_iload dX7_next_27 rfl ?_
    refine st_iload_n dX7_next_29 rfl ?_
    refine st_iload_n dX7_next_30 rfl ?_
    refine st_iadd dX7_next_31 (by omega) ?_
    refine st_icmp_gt 122 dX7_next_32 (by decide) (fun h32 => ?_) (fun h32 => ?_)
    · skip
      exact absurd h32 (by omega)
    · skip
      refine st_iconst dX7_next_35 (by decide) ?_
      refine st_istore (ls' := [some (vr 22 0), some (vi (x : Int)), some (vi (l : Int)), some (vi (((2 * w - 1) : Nat) : Int)), some (vi (t : Int)), some (vi 0), none]) dX7_next_36 (by decide) rfl rfl ?_
      refine st_iconst dX7_next_38 (by decide) ?_
      refine st_istore (ls' := [some (vr 22 0), some (vi (x : Int)), some (vi (l : Int)), some (vi (((2 * w - 1) : Nat) : Int)), some (vi (t : Int)), some (vi 0), some (vi 1)]) dX7_next_39 (by decide) rfl rfl ?_
      refine st_iload dX7_next_41 rfl ?_
      refine st_iload_n dX7_next_43 rfl ?_
      refine st_icmp_gt 82 dX7_next_44 (by decide) (fun h44 => ?_) (fun h44 => ?_)
      · skip
        refine st_aload_n dX7_next_82 rfl ?_
        refine st_getr (i' := 0) dX7_next_83 fl_X7_31 rfl rfl rfl (fun _ => by decide) ?_
        refine st_iload dX7_next_86 rfl ?_
        refine st_iload dX7_next_88 rfl ?_
        refine st_iload_n dX7_next_90 rfl ?_
        refine st_icmp_ge 106 dX7_next_91 (by decide) (fun h91 => ?_) (fun h91 => ?_)
        · skip
          exact absurd h91 (by omega)
        · skip
          refine st_aload_n dX7_next_94 rfl ?_
          refine st_getr (i' := 0) dX7_next_95 fl_X7_7 rfl rfl rfl (fun _ => by decide) ?_
          refine st_iconst dX7_next_98 (by decide) ?_
          refine st_iload dX7_next_99 rfl ?_
          refine st_iadd dX7_next_101 (by omega) ?_
          refine st_iald (j := (4 + t)) dX7_next_102 rfl rfl rfl (by omega) (by omega) ?_
          refine fAt_v (x' := lL M t) (mS_n hS (4 + t)) ?_
          refine st_goto 115 dX7_next_103 (by decide) ?_
          refine st_iast (j := t) dX7_next_115 rfl rfl rfl rfl (by omega) ?_
          refine st_iinc (ls' := [some (vr 22 0), some (vi (x : Int)), some (vi (l : Int)), some (vi (((2 * w - 1) : Nat) : Int)), some (vi ((t : Int) + 1)), some (vi 0), some (vi 1)]) dX7_next_116 rfl (by omega) (by decide) rfl rfl ?_
          refine st_goto 27 dX7_next_119 (by decide) ?_
          refine fAt_del 5 rfl ?_
          refine fAt_del 6 rfl ?_
          refine ih (t + 1) _ (by omega) (fun c hc => by rw [fup_ne (by omega)]; exact h29 c hc) (fun q hq => ?_) (fun k a b q1 q2 q3 q4 q5 q6 q7 => by rw [fup_ne (by omega)]; exact hS k a b q1 q2 q3 q4 q5 q6 q7)
          by_cases e : q = t
          · rw [e, fup_eq]
          · rw [fup_ne (by omega)]; exact h30 q (by omega)
      · skip
        refine st_iload dX7_next_47 rfl ?_
        refine st_iload_n dX7_next_49 rfl ?_
        refine st_icmp_lt 82 dX7_next_50 (by decide) (fun h50 => ?_) (fun h50 => ?_)
        · skip
          refine st_aload_n dX7_next_82 rfl ?_
          refine st_getr (i' := 0) dX7_next_83 fl_X7_31 rfl rfl rfl (fun _ => by decide) ?_
          refine st_iload dX7_next_86 rfl ?_
          refine st_iload dX7_next_88 rfl ?_
          refine st_iload_n dX7_next_90 rfl ?_
          refine st_icmp_ge 106 dX7_next_91 (by decide) (fun h91 => ?_) (fun h91 => ?_)
          · skip
            exact absurd h91 (by omega)
          · skip
            refine st_aload_n dX7_next_94 rfl ?_
            refine st_getr (i' := 0) dX7_next_95 fl_X7_7 rfl rfl rfl (fun _ => by decide) ?_
            refine st_iconst dX7_next_98 (by decide) ?_
            refine st_iload dX7_next_99 rfl ?_
            refine st_iadd dX7_next_101 (by omega) ?_
            refine st_iald (j := (4 + t)) dX7_next_102 rfl rfl rfl (by omega) (by omega) ?_
            refine fAt_v (x' := lL M t) (mS_n hS (4 + t)) ?_
            refine st_goto 115 dX7_next_103 (by decide) ?_
            refine st_iast (j := t) dX7_next_115 rfl rfl rfl rfl (by omega) ?_
            refine st_iinc (ls' := [some (vr 22 0), some (vi (x : Int)), some (vi (l : Int)), some (vi (((2 * w - 1) : Nat) : Int)), some (vi ((t : Int) + 1)), some (vi 0), some (vi 1)]) dX7_next_116 rfl (by omega) (by decide) rfl rfl ?_
            refine st_goto 27 dX7_next_119 (by decide) ?_
            refine fAt_del 5 rfl ?_
            refine fAt_del 6 rfl ?_
            refine ih (t + 1) _ (by omega) (fun c hc => by rw [fup_ne (by omega)]; exact h29 c hc) (fun q hq => ?_) (fun k a b q1 q2 q3 q4 q5 q6 q7 => by rw [fup_ne (by omega)]; exact hS k a b q1 q2 q3 q4 q5 q6 q7)
            by_cases e : q = t
            · rw [e, fup_eq]
            · rw [fup_ne (by omega)]; exact h30 q (by omega)
        · skip
          exact absurd h50 (by omega)
set_option maxHeartbeats 4000000 in
set_option maxRecDepth 100000 in
theorem m_next {g : fG} {M : fM} {w : Nat} {p : Int} (hn : nOk M w p) {x : Int} :
    fCi g Y_X7_next [vr 22 0, vi x] M (fun z M' => ((¬ (0 ≤ x ∧ x ≤ 20) ∧ z = -1) ∨ ((0 ≤ x ∧ x ≤ 20) ∧ ∃ l a, LawS p (lL M) (2 * w - 1) l a ∧ z = sqN p (lL M) (2 * w - 1) l a (x.toNat + 1) (2 * w - 1 + x.toNat))) ∧ mS M M') := by
  have hw1 := hn.2.2.2.1
  have hp2 := hn.2.2.1.1
  refine fCi_of _ [some (vr 22 0), some (vi x), none, none, none, none, none] (by decide) (Nat.le_of_ble_eq_true rfl) rfl (fun h => h) ?_
  refine st_iload_n dX7_next_0 rfl ?_
  refine st_i2l dX7_next_1 ?_
  refine st_lconst0 dX7_next_2 ?_
  refine st_ldc2 (v := 20) (20) dX7_next_3 (ftb_in 974 (by decide +kernel) rfl) (by decide +kernel) ?_
  refine st_callSi [vl x, vl 0, vl 20] [] dX7_next_6 sl_X7_57 rfl rfl (Nat.le_of_ble_eq_true rfl) (by decide) (m_in) (fun za Ma qa => ?_)
  obtain ⟨qa, rfl⟩ := qa
  rcases qa with ⟨rfl, aa⟩ | ⟨rfl, aa⟩
  · skip
    refine st_if_ne 14 dX7_next_9 (by decide) (fun h9 => ?_) (fun h9 => ?_)
    · skip
      refine st_aload_n dX7_next_14 rfl ?_
      refine st_callVi [] [] dX7_next_15 vl_X7_126 rfl rfl rfl rfl (Nat.le_of_ble_eq_true rfl) (by decide) (m_law hn) (fun z Mb qb => ?_)
      obtain ⟨l, a, rfl, hLw, hT, hS⟩ := qb
      have hl := hLw.1
      refine st_istore_n (ls' := [some (vr 22 0), some (vi x), some (vi (l : Int)), none, none, none, none]) dX7_next_18 (by decide) rfl rfl ?_
      refine st_aload_n dX7_next_19 rfl ?_
      refine st_callVi [] [] dX7_next_20 vl_X7_61 rfl rfl rfl rfl (Nat.le_of_ble_eq_true rfl) (by decide) (m_lines (w := w) ((mS_n hS 0).trans hn.1) hn.2.2.2.1) (fun zl Ml ql => ?_)
      obtain ⟨rfl, q⟩ := ql
      subst Ml
      refine st_istore_n (ls' := [some (vr 22 0), some (vi x), some (vi (l : Int)), some (vi (((2 * w - 1) : Nat) : Int)), none, none, none]) dX7_next_23 (by decide) rfl rfl ?_
      refine st_iconst dX7_next_24 (by decide) ?_
      refine st_istore (ls' := [some (vr 22 0), some (vi x), some (vi (l : Int)), some (vi (((2 * w - 1) : Nat) : Int)), some (vi 0), none, none]) dX7_next_25 (by decide) rfl rfl ?_
      refine fAt_ls (ls' := [some (vr 22 0), some (vi ((x.toNat : Nat) : Int)), some (vi (l : Int)), some (vi ((2 * w - 1 : Nat) : Int)), some (vi ((0 : Nat) : Int)), none, none]) (by rw [show ((x.toNat : Nat) : Int) = x by omega]; rfl) ?_
      refine fAt_q (fun r M' h => ?_) (m_next_1 (M := Ma) (x := x.toNat) (l := l) (a := a) (p := p) hp2 hw1 hl (by omega) hLw.2.2.1 hn.2.2.2.2.2.1 hn.2.1 (2 * w - 1) 0 Mb (by omega) hT (fun q hq => absurd hq (by omega)) hS)
      obtain ⟨z, e, h1, h2⟩ := h
      exact ⟨z, e, Or.inr ⟨by omega, l, a, hLw, h1⟩, h2⟩
    · skip
      exact absurd h9 (by omega)
  · skip
    refine st_if_ne 14 dX7_next_9 (by decide) (fun h9 => ?_) (fun h9 => ?_)
    · skip
      exact absurd h9 (by omega)
    · skip
      refine st_iconst dX7_next_12 (by decide) ?_
      refine st_ireturn dX7_next_13 rfl ⟨_, rfl, ⟨Or.inl ⟨by omega, rfl⟩, mS_r _⟩⟩
def imS (M : fM) (c d : Nat) : fM := fun k a b => if k = 31 ∧ a = 0 ∧ b < c then M 23 0 b else if k = 32 ∧ a = 0 ∧ b < d then M 28 0 b else M k a b
theorem imS_c (M : fM) (c : Nat) : fup (imS M c 0) 31 0 c (M 23 0 c) = imS M (c + 1) 0 := by
  funext k a b
  simp only [imS, fup]
  grind (splits := 40)
theorem imS_d (M : fM) (d : Nat) : fup (imS M 21 d) 32 0 d (M 28 0 d) = imS M 21 (d + 1) := by
  funext k a b
  simp only [imS, fup]
  grind (splits := 40)
theorem imS_0 (M : fM) : imS M 0 0 = M := by
  funext k a b
  unfold imS
  rw [if_neg (by omega), if_neg (by omega)]
def reS (M : fM) (c d : Nat) : fM := fun k a b => if k = 23 ∧ a = 0 ∧ b < c then M 31 0 b else if k = 28 ∧ a = 0 ∧ b < d then M 32 0 b else M k a b
theorem reS_c (M : fM) (c : Nat) : fup (reS M c 0) 23 0 c (M 31 0 c) = reS M (c + 1) 0 := by
  funext k a b
  simp only [reS, fup]
  grind (splits := 40)
theorem reS_d (M : fM) (d : Nat) : fup (reS M 21 d) 28 0 d (M 32 0 d) = reS M 21 (d + 1) := by
  funext k a b
  simp only [reS, fup]
  grind (splits := 40)
theorem reS_0 (M : fM) : reS M 0 0 = M := by
  funext k a b
  unfold reS
  rw [if_neg (by omega), if_neg (by omega)]
set_option maxHeartbeats 4000000 in
set_option maxRecDepth 100000 in
theorem image_2 {g : fG} {M : fM}  :
    ∀ (n c : Nat), c + n = 168 → fAt g Y_X7_image 28 [some (vr 22 0), some (vi (c : Int))] [] (imS M 21 c) (fI (fun z M' => z = 1 ∧ M' = fup (imS M 21 168) 22 0 14 (M 22 0 9))) := by
  intro n
  induction n with
  | zero =>
    intro c hm
    refine st_iload_n dX7_image_28 rfl ?_
    refine st_sipush dX7_image_29 (by decide) ?_
    refine st_icmp_ge 53 dX7_image_32 (by decide) (fun h32 => ?_) (fun h32 => ?_)
    · skip
      refine st_aload_n dX7_image_53 rfl ?_
      refine st_aload_n dX7_image_54 rfl ?_
      refine st_get dX7_image_55 fl_X7_108 rfl rfl rfl ?_
      refine fAt_v (x' := M 22 0 9) (by unfold imS; rw [if_neg (by omega), if_neg (by omega)]) ?_
      refine st_put dX7_image_58 fl_X7_40 fp_X7_14.1 (Or.inl fp_X7_14.2) rfl rfl rfl ?_
      refine st_iconst dX7_image_61 (by decide) ?_
      refine st_ireturn dX7_image_62 rfl ⟨_, rfl, ⟨rfl, by rw [show c = 168 by omega]⟩⟩
    · skip
      exact absurd h32 (by omega)
  | succ n ih =>
    intro c hm
    refine st_iload_n dX7_image_28 rfl ?_
    refine st_sipush dX7_image_29 (by decide) ?_
    refine st_icmp_ge 53 dX7_image_32 (by decide) (fun h32 => ?_) (fun h32 => ?_)
    · skip
      exact absurd h32 (by omega)
    · skip
      refine st_aload_n dX7_image_35 rfl ?_
      refine st_getr (i' := 0) dX7_image_36 fl_X7_37 rfl rfl rfl (fun _ => by decide) ?_
      refine st_iload_n dX7_image_39 rfl ?_
      refine st_aload_n dX7_image_40 rfl ?_
      refine st_getr (i' := 0) dX7_image_41 fl_X7_25 rfl rfl rfl (fun _ => by decide) ?_
      refine st_iload_n dX7_image_44 rfl ?_
      refine st_iald (j := c) dX7_image_45 rfl rfl rfl rfl (by omega) ?_
      refine fAt_v (x' := M 28 0 c) (by unfold imS; rw [if_neg (by omega), if_neg (by omega)]) ?_
      refine st_iast (j := c) dX7_image_46 rfl rfl rfl rfl (by omega) ?_
      refine fAt_m (imS_d M c) ?_
      refine st_iinc (ls' := [some (vr 22 0), some (vi ((c : Int) + 1))]) dX7_image_47 rfl (by omega) (by decide) rfl rfl ?_
      refine st_goto 28 dX7_image_50 (by decide) ?_
      exact ih (c + 1) (by omega)
set_option maxHeartbeats 4000000 in
set_option maxRecDepth 100000 in
theorem image_1 {g : fG} {M : fM}  :
    ∀ (n c : Nat), c + n = 21 → fAt g Y_X7_image 2 [some (vr 22 0), some (vi (c : Int))] [] (imS M c 0) (fI (fun z M' => z = 1 ∧ M' = fup (imS M 21 168) 22 0 14 (M 22 0 9))) := by
  intro n
  induction n with
  | zero =>
    intro c hm
    refine st_iload_n dX7_image_2 rfl ?_
    refine st_bipush dX7_image_3 (by decide) ?_
    refine st_icmp_ge 26 dX7_image_5 (by decide) (fun h5 => ?_) (fun h5 => ?_)
    · skip
      refine st_iconst dX7_image_26 (by decide) ?_
      refine st_istore_n (ls' := [some (vr 22 0), some (vi 0)]) dX7_image_27 (by decide) rfl rfl ?_
      refine fAt_m (show _ = imS M 21 0 from by rw [show c = 21 by omega]) ?_
      exact image_2 168 0 (by omega)
    · skip
      exact absurd h5 (by omega)
  | succ n ih =>
    intro c hm
    refine st_iload_n dX7_image_2 rfl ?_
    refine st_bipush dX7_image_3 (by decide) ?_
    refine st_icmp_ge 26 dX7_image_5 (by decide) (fun h5 => ?_) (fun h5 => ?_)
    · skip
      exact absurd h5 (by omega)
    · skip
      refine st_aload_n dX7_image_8 rfl ?_
      refine st_getr (i' := 0) dX7_image_9 fl_X7_34 rfl rfl rfl (fun _ => by decide) ?_
      refine st_iload_n dX7_image_12 rfl ?_
      refine st_aload_n dX7_image_13 rfl ?_
      refine st_getr (i' := 0) dX7_image_14 fl_X7_7 rfl rfl rfl (fun _ => by decide) ?_
      refine st_iload_n dX7_image_17 rfl ?_
      refine st_iald (j := c) dX7_image_18 rfl rfl rfl rfl (by omega) ?_
      refine fAt_v (x' := M 23 0 c) (by unfold imS; rw [if_neg (by omega), if_neg (by omega)]) ?_
      refine st_iast (j := c) dX7_image_19 rfl rfl rfl rfl (by omega) ?_
      refine fAt_m (imS_c M c) ?_
      refine st_iinc (ls' := [some (vr 22 0), some (vi ((c : Int) + 1))]) dX7_image_20 rfl (by omega) (by decide) rfl rfl ?_
      refine st_goto 2 dX7_image_23 (by decide) ?_
      exact ih (c + 1) (by omega)
set_option maxHeartbeats 4000000 in
set_option maxRecDepth 100000 in
theorem m_image {g : fG} {M : fM}  :
    fCi g Y_X7_image [vr 22 0] M (fun z M' => z = 1 ∧ M' = fup (imS M 21 168) 22 0 14 (M 22 0 9)) := by
  refine fCi_of _ [some (vr 22 0), none] (by decide) (Nat.le_of_ble_eq_true rfl) rfl (fun h => h) ?_
  refine st_iconst dX7_image_0 (by decide) ?_
  refine st_istore_n (ls' := [some (vr 22 0), some (vi 0)]) dX7_image_1 (by decide) rfl rfl ?_
  refine fAt_m (imS_0 M).symm ?_
  exact image_1 21 0 (by omega)
set_option maxHeartbeats 4000000 in
set_option maxRecDepth 100000 in
theorem restore_2 {g : fG} {M : fM}  :
    ∀ (n c : Nat), c + n = 168 → fAt g Y_X7_restore 38 [some (vr 22 0), some (vi (c : Int))] [] (reS M 21 c) (fI (fun z M' => z = 1 ∧ M' = fup (reS M 21 168) 22 0 9 (M 22 0 14))) := by
  intro n
  induction n with
  | zero =>
    intro c hm
    refine st_iload_n dX7_restore_38 rfl ?_
    refine st_sipush dX7_restore_39 (by decide) ?_
    refine st_icmp_ge 63 dX7_restore_42 (by decide) (fun h42 => ?_) (fun h42 => ?_)
    · skip
      refine st_aload_n dX7_restore_63 rfl ?_
      refine st_aload_n dX7_restore_64 rfl ?_
      refine st_get dX7_restore_65 fl_X7_40 rfl rfl rfl ?_
      refine fAt_v (x' := M 22 0 14) (by unfold reS; rw [if_neg (by omega), if_neg (by omega)]) ?_
      refine st_put dX7_restore_68 fl_X7_108 fp_X7_9.1 (Or.inl fp_X7_9.2) rfl rfl rfl ?_
      refine st_iconst dX7_restore_71 (by decide) ?_
      refine st_ireturn dX7_restore_72 rfl ⟨_, rfl, ⟨rfl, by rw [show c = 168 by omega]⟩⟩
    · skip
      exact absurd h42 (by omega)
  | succ n ih =>
    intro c hm
    refine st_iload_n dX7_restore_38 rfl ?_
    refine st_sipush dX7_restore_39 (by decide) ?_
    refine st_icmp_ge 63 dX7_restore_42 (by decide) (fun h42 => ?_) (fun h42 => ?_)
    · skip
      exact absurd h42 (by omega)
    · skip
      refine st_aload_n dX7_restore_45 rfl ?_
      refine st_getr (i' := 0) dX7_restore_46 fl_X7_25 rfl rfl rfl (fun _ => by decide) ?_
      refine st_iload_n dX7_restore_49 rfl ?_
      refine st_aload_n dX7_restore_50 rfl ?_
      refine st_getr (i' := 0) dX7_restore_51 fl_X7_37 rfl rfl rfl (fun _ => by decide) ?_
      refine st_iload_n dX7_restore_54 rfl ?_
      refine st_iald (j := c) dX7_restore_55 rfl rfl rfl rfl (by omega) ?_
      refine fAt_v (x' := M 32 0 c) (by unfold reS; rw [if_neg (by omega), if_neg (by omega)]) ?_
      refine st_iast (j := c) dX7_restore_56 rfl rfl rfl rfl (by omega) ?_
      refine fAt_m (reS_d M c) ?_
      refine st_iinc (ls' := [some (vr 22 0), some (vi ((c : Int) + 1))]) dX7_restore_57 rfl (by omega) (by decide) rfl rfl ?_
      refine st_goto 38 dX7_restore_60 (by decide) ?_
      exact ih (c + 1) (by omega)
set_option maxHeartbeats 4000000 in
set_option maxRecDepth 100000 in
theorem restore_1 {g : fG} {M : fM}  :
    ∀ (n c : Nat), c + n = 21 → fAt g Y_X7_restore 12 [some (vr 22 0), some (vi (c : Int))] [] (reS M c 0) (fI (fun z M' => z = 1 ∧ M' = fup (reS M 21 168) 22 0 9 (M 22 0 14))) := by
  intro n
  induction n with
  | zero =>
    intro c hm
    refine st_iload_n dX7_restore_12 rfl ?_
    refine st_bipush dX7_restore_13 (by decide) ?_
    refine st_icmp_ge 36 dX7_restore_15 (by decide) (fun h15 => ?_) (fun h15 => ?_)
    · skip
      refine st_iconst dX7_restore_36 (by decide) ?_
      refine st_istore_n (ls' := [some (vr 22 0), some (vi 0)]) dX7_restore_37 (by decide) rfl rfl ?_
      refine fAt_m (show _ = reS M 21 0 from by rw [show c = 21 by omega]) ?_
      exact restore_2 168 0 (by omega)
    · skip
      exact absurd h15 (by omega)
  | succ n ih =>
    intro c hm
    refine st_iload_n dX7_restore_12 rfl ?_
    refine st_bipush dX7_restore_13 (by decide) ?_
    refine st_icmp_ge 36 dX7_restore_15 (by decide) (fun h15 => ?_) (fun h15 => ?_)
    · skip
      exact absurd h15 (by omega)
    · skip
      refine st_aload_n dX7_restore_18 rfl ?_
      refine st_getr (i' := 0) dX7_restore_19 fl_X7_7 rfl rfl rfl (fun _ => by decide) ?_
      refine st_iload_n dX7_restore_22 rfl ?_
      refine st_aload_n dX7_restore_23 rfl ?_
      refine st_getr (i' := 0) dX7_restore_24 fl_X7_34 rfl rfl rfl (fun _ => by decide) ?_
      refine st_iload_n dX7_restore_27 rfl ?_
      refine st_iald (j := c) dX7_restore_28 rfl rfl rfl rfl (by omega) ?_
      refine fAt_v (x' := M 31 0 c) (by unfold reS; rw [if_neg (by omega), if_neg (by omega)]) ?_
      refine st_iast (j := c) dX7_restore_29 rfl rfl rfl rfl (by omega) ?_
      refine fAt_m (reS_c M c) ?_
      refine st_iinc (ls' := [some (vr 22 0), some (vi ((c : Int) + 1))]) dX7_restore_30 rfl (by omega) (by decide) rfl rfl ?_
      refine st_goto 12 dX7_restore_33 (by decide) ?_
      exact ih (c + 1) (by omega)
set_option maxHeartbeats 4000000 in
set_option maxRecDepth 100000 in
theorem m_restore {g : fG} {M : fM}  :
    fCi g Y_X7_restore [vr 22 0] M (fun z M' => (M 22 0 14 < 0 ∧ z = -4 ∧ M' = M) ∨ (0 ≤ M 22 0 14 ∧ z = 1 ∧ M' = fup (reS M 21 168) 22 0 9 (M 22 0 14))) := by
  refine fCi_of _ [some (vr 22 0), none] (by decide) (Nat.le_of_ble_eq_true rfl) rfl (fun h => h) ?_
  refine st_aload_n dX7_restore_0 rfl ?_
  refine st_get dX7_restore_1 fl_X7_40 rfl rfl rfl ?_
  refine st_if_ge 10 dX7_restore_4 (by decide) (fun h4 => ?_) (fun h4 => ?_)
  · skip
    refine st_iconst dX7_restore_10 (by decide) ?_
    refine st_istore_n (ls' := [some (vr 22 0), some (vi 0)]) dX7_restore_11 (by decide) rfl rfl ?_
    refine fAt_m (reS_0 M).symm ?_
    refine fAt_q (fun r M' h => ?_) (restore_1 21 0 (by omega))
    obtain ⟨z, e, h1, h2⟩ := h
    exact ⟨z, e, Or.inr ⟨by omega, h1, h2⟩⟩
  · skip
    refine st_bipush dX7_restore_7 (by decide) ?_
    refine st_ireturn dX7_restore_9 rfl ⟨_, rfl, Or.inl ⟨by omega, rfl, rfl⟩⟩
