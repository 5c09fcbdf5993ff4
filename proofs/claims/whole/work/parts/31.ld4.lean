/-! ===== the public calls ===== -/
def BkH (M : fM) (kn od : Nat) : Prop := M 1 0 1 = (kn : Int) ∧ M 1 0 3 = (od : Int) ∧ kn ≤ 8 ∧ od < 8
set_option maxHeartbeats 4000000 in
set_option maxRecDepth 100000 in
theorem c_line {g : fG} {M : fM} {w : Nat} {p : Int} (hx : xOk M w p) {x : Int} :
    fCi g Y_X6_line [vr 0 0, vi x] M (fun z M' => z = (if 0 ≤ x ∧ x < ((2 * w - 1 : Nat) : Int) then M 3 0 x.toNat else -1) ∧ M' = M) := by
  have hw1 := hx.2.2.1.2.1
  have hp2 := hx.2.1.1
  refine fCi_of _ [some (vr 0 0), some (vi x)] (by decide) (Nat.le_of_ble_eq_true rfl) rfl (fun h => h) ?_
  refine st_aload_n dX6_line_0 rfl ?_
  refine st_iload_n dX6_line_1 rfl ?_
  refine st_callVi [vi x] [] dX6_line_2 vl_X6_109 rfl rfl rfl rfl (Nat.le_of_ble_eq_true rfl) (by decide) (c_isPlace hx.2.2.1.1 hx.2.2.1.2.1) (fun za Ma qa => ?_)
  obtain ⟨qa, rfl⟩ := qa
  rcases qa with ⟨rfl, aa⟩ | ⟨rfl, aa⟩
  · skip
    refine st_if_eq 23 dX6_line_5 (by decide) (fun h5 => ?_) (fun h5 => ?_)
    · skip
      exact absurd h5 (by omega)
    · skip
      refine st_aload_n dX6_line_8 rfl ?_
      refine st_getr (i' := 0) dX6_line_9 fl_X6_12 rfl rfl rfl (fun _ => by decide) ?_
      refine st_getr (i' := 0) dX6_line_12 fl_X6_76 rfl rfl rfl (fun _ => by decide) ?_
      refine st_getr (i' := 0) dX6_line_15 fl_X6_112 rfl rfl rfl (fun _ => by decide) ?_
      refine st_iload_n dX6_line_18 rfl ?_
      refine st_iald (j := x.toNat) dX6_line_19 rfl rfl rfl (by omega) (by omega) ?_
      refine st_goto 24 dX6_line_20 (by decide) ?_
      refine st_ireturn dX6_line_24 rfl ⟨_, rfl, ⟨?_, rfl⟩⟩
      first | rw [if_pos aa] | rw [if_neg aa]
  · skip
    refine st_if_eq 23 dX6_line_5 (by decide) (fun h5 => ?_) (fun h5 => ?_)
    · skip
      refine st_iconst dX6_line_23 (by decide) ?_
      refine st_ireturn dX6_line_24 rfl ⟨_, rfl, ⟨?_, rfl⟩⟩
      first | rw [if_pos aa] | rw [if_neg aa]
    · skip
      exact absurd h5 (by omega)
set_option maxHeartbeats 4000000 in
set_option maxRecDepth 100000 in
theorem c_right {g : fG} {M : fM} {w : Nat} {p : Int} (hx : xOk M w p) {x : Int} :
    fCi g Y_X6_right [vr 0 0, vi x] M (fun z M' => z = (if 0 ≤ x ∧ x < (w : Int) then M 4 0 x.toNat else -1) ∧ M' = M) := by
  have hw1 := hx.2.2.1.2.1
  have hp2 := hx.2.1.1
  refine fCi_of _ [some (vr 0 0), some (vi x)] (by decide) (Nat.le_of_ble_eq_true rfl) rfl (fun h => h) ?_
  refine st_aload_n dX6_right_0 rfl ?_
  refine st_iload_n dX6_right_1 rfl ?_
  refine st_callVi [vi x] [] dX6_right_2 vl_X6_115 rfl rfl rfl rfl (Nat.le_of_ble_eq_true rfl) (by decide) (c_isWithin hx.2.2.1.1 hx.2.2.1.2.1) (fun za Ma qa => ?_)
  obtain ⟨qa, rfl⟩ := qa
  rcases qa with ⟨rfl, aa⟩ | ⟨rfl, aa⟩
  · skip
    refine st_if_eq 23 dX6_right_5 (by decide) (fun h5 => ?_) (fun h5 => ?_)
    · skip
      exact absurd h5 (by omega)
    · skip
      refine st_aload_n dX6_right_8 rfl ?_
      refine st_getr (i' := 0) dX6_right_9 fl_X6_12 rfl rfl rfl (fun _ => by decide) ?_
      refine st_getr (i' := 0) dX6_right_12 fl_X6_76 rfl rfl rfl (fun _ => by decide) ?_
      refine st_getr (i' := 0) dX6_right_15 fl_X6_118 rfl rfl rfl (fun _ => by decide) ?_
      refine st_iload_n dX6_right_18 rfl ?_
      refine st_iald (j := x.toNat) dX6_right_19 rfl rfl rfl (by omega) (by omega) ?_
      refine st_goto 24 dX6_right_20 (by decide) ?_
      refine st_ireturn dX6_right_24 rfl ⟨_, rfl, ⟨?_, rfl⟩⟩
      first | rw [if_pos aa] | rw [if_neg aa]
  · skip
    refine st_if_eq 23 dX6_right_5 (by decide) (fun h5 => ?_) (fun h5 => ?_)
    · skip
      refine st_iconst dX6_right_23 (by decide) ?_
      refine st_ireturn dX6_right_24 rfl ⟨_, rfl, ⟨?_, rfl⟩⟩
      first | rw [if_pos aa] | rw [if_neg aa]
    · skip
      exact absurd h5 (by omega)
theorem fAt_xy {g : fG} {Y : fY} {pc : Nat} {ls : List (Option fV)} {st : List fV} {M : fM} {Q : Option fV → fM → Prop} {v : fV} {x y x' y' : Int} (hx : x = x') (hy : y = y') (kk : fAt g Y pc ls (v :: vi y' :: vi x' :: st) M Q) : fAt g Y pc ls (v :: vi y :: vi x :: st) M Q := by
  rw [hx, hy]; exact kk
set_option maxHeartbeats 4000000 in
set_option maxRecDepth 100000 in
theorem c_entry {g : fG} {M : fM} {w : Nat} {p : Int} (hx : xOk M w p) {x y : Int} :
    fCi g Y_X6_entry [vr 0 0, vi x, vi y] M (fun z M' => z = (if (0 ≤ x ∧ x < (w : Int)) ∧ (0 ≤ y ∧ y < (w : Int)) then eM M 0 w p x.toNat y.toNat else -1) ∧ M' = M) := by
  have hw1 := hx.2.2.1.2.1
  have hp2 := hx.2.1.1
  refine fCi_of _ [some (vr 0 0), some (vi x), some (vi y)] (by decide) (Nat.le_of_ble_eq_true rfl) rfl (fun h => h) ?_
  refine st_aload_n dX6_entry_0 rfl ?_
  refine st_iload_n dX6_entry_1 rfl ?_
  refine st_callVi [vi x] [] dX6_entry_2 vl_X6_115 rfl rfl rfl rfl (Nat.le_of_ble_eq_true rfl) (by decide) (c_isWithin hx.2.2.1.1 hx.2.2.1.2.1) (fun za Ma qa => ?_)
  obtain ⟨qa, rfl⟩ := qa
  rcases qa with ⟨rfl, aa⟩ | ⟨rfl, aa⟩
  · skip
    refine st_if_eq 16 dX6_entry_5 (by decide) (fun h5 => ?_) (fun h5 => ?_)
    · skip
      exact absurd h5 (by omega)
    · skip
      refine st_aload_n dX6_entry_8 rfl ?_
      refine st_iload_n dX6_entry_9 rfl ?_
      refine st_callVi [vi y] [] dX6_entry_10 vl_X6_115 rfl rfl rfl rfl (Nat.le_of_ble_eq_true rfl) (by decide) (c_isWithin hx.2.2.1.1 hx.2.2.1.2.1) (fun zb Mb qb => ?_)
      obtain ⟨qb, rfl⟩ := qb
      rcases qb with ⟨rfl, ab⟩ | ⟨rfl, ab⟩
      · skip
        refine st_if_ne 18 dX6_entry_13 (by decide) (fun h13 => ?_) (fun h13 => ?_)
        · skip
          refine st_aload_n dX6_entry_18 rfl ?_
          refine st_getr (i' := 0) dX6_entry_19 fl_X6_12 rfl rfl rfl (fun _ => by decide) ?_
          refine st_getr (i' := 0) dX6_entry_22 fl_X6_76 rfl rfl rfl (fun _ => by decide) ?_
          refine st_aload_n dX6_entry_25 rfl ?_
          refine st_getr (i' := 0) dX6_entry_26 fl_X6_12 rfl rfl rfl (fun _ => by decide) ?_
          refine st_getr (i' := 0) dX6_entry_29 fl_X6_76 rfl rfl rfl (fun _ => by decide) ?_
          refine st_get dX6_entry_32 fl_X6_121 rfl rfl rfl ?_
          refine st_iload_n dX6_entry_35 rfl ?_
          refine st_iload_n dX6_entry_36 rfl ?_
          refine st_aload_n dX6_entry_37 rfl ?_
          refine st_getr (i' := 0) dX6_entry_38 fl_X6_12 rfl rfl rfl (fun _ => by decide) ?_
          refine st_get dX6_entry_41 fl_X6_72 rfl rfl rfl ?_
          refine fAt_v (x' := p) hx.1 ?_
          refine fAt_xy (x' := ((x.toNat : Nat) : Int)) (y' := ((y.toNat : Nat) : Int)) (by omega) (by omega) ?_
          refine st_callVi [vi (Mb 2 0 1), vi ((x.toNat : Nat) : Int), vi ((y.toNat : Nat) : Int), vi p] [] dX6_entry_44 vl_X6_124 rfl rfl rfl rfl (Nat.le_of_ble_eq_true rfl) (by decide) (c_cellAt hx.2.2.1.1 hx.2.2.1.2.1 (by omega) (by omega) (kd5 hx.2.2.1.2.2.1) hx.2.1.1 hx.2.2.1.2.2.2.1) (fun zc Mc qc => ?_)
          obtain ⟨rfl, rfl⟩ := qc
          refine st_ireturn dX6_entry_47 rfl ⟨_, rfl, ⟨?_, rfl⟩⟩
          rw [if_pos ⟨aa, ab⟩]
        · skip
          exact absurd h13 (by omega)
      · skip
        refine st_if_ne 18 dX6_entry_13 (by decide) (fun h13 => ?_) (fun h13 => ?_)
        · skip
          exact absurd h13 (by omega)
        · skip
          refine st_iconst dX6_entry_16 (by decide) ?_
          refine st_ireturn dX6_entry_17 rfl ⟨_, rfl, ⟨?_, rfl⟩⟩
          rw [if_neg (by omega)]
  · skip
    refine st_if_eq 16 dX6_entry_5 (by decide) (fun h5 => ?_) (fun h5 => ?_)
    · skip
      refine st_iconst dX6_entry_16 (by decide) ?_
      refine st_ireturn dX6_entry_17 rfl ⟨_, rfl, ⟨?_, rfl⟩⟩
      rw [if_neg (by omega)]
    · skip
      exact absurd h5 (by omega)
set_option maxHeartbeats 4000000 in
set_option maxRecDepth 100000 in
theorem c_change {g : fG} {M : fM} {w : Nat} {p : Int} (hx : xOk M w p) {kn od : Nat} (hb : BkH M kn od) {x v : Int} :
    fCi g Y_X6_change [vr 0 0, vi x, vi v] M (fun z M' => (¬ ((0 ≤ x ∧ x < ((2 * w - 1 : Nat) : Int)) ∧ (0 ≤ v ∧ v < p)) ∧ z = -1 ∧ M' = M) ∨ (((0 ≤ x ∧ x < ((2 * w - 1 : Nat) : Int)) ∧ (0 ≤ v ∧ v < p)) ∧ ((v = M 3 0 x.toNat ∧ z = -2 ∧ M' = M) ∨ (v ≠ M 3 0 x.toNat ∧ z = M 3 0 x.toNat ∧ M' = fup (bkR M kn od) 3 0 x.toNat v)))) := by
  have hw1 := hx.2.2.1.2.1
  have hp2 := hx.2.1.1
  refine fCi_of _ [some (vr 0 0), some (vi x), some (vi v), none] (by decide) (Nat.le_of_ble_eq_true rfl) rfl (fun h => h) ?_
  refine st_aload_n dX6_change_0 rfl ?_
  refine st_iload_n dX6_change_1 rfl ?_
  refine st_callVi [vi x] [] dX6_change_2 vl_X6_109 rfl rfl rfl rfl (Nat.le_of_ble_eq_true rfl) (by decide) (c_isPlace hx.2.2.1.1 hx.2.2.1.2.1) (fun za Ma qa => ?_)
  obtain ⟨qa, rfl⟩ := qa
  rcases qa with ⟨rfl, aa⟩ | ⟨rfl, aa⟩
  · skip
    refine st_if_eq 17 dX6_change_5 (by decide) (fun h5 => ?_) (fun h5 => ?_)
    · skip
      exact absurd h5 (by omega)
    · skip
      refine st_aload_n dX6_change_8 rfl ?_
      refine st_iload_n dX6_change_9 rfl ?_
      refine st_i2l dX6_change_10 ?_
      refine st_callVi [vl v] [] dX6_change_11 vl_X6_144 rfl rfl rfl rfl (Nat.le_of_ble_eq_true rfl) (by decide) (c_isNumber hx.1) (fun zb Mb qb => ?_)
      obtain ⟨qb, rfl⟩ := qb
      rcases qb with ⟨rfl, ab⟩ | ⟨rfl, ab⟩
      · skip
        refine st_if_ne 19 dX6_change_14 (by decide) (fun h14 => ?_) (fun h14 => ?_)
        · skip
          refine st_aload_n dX6_change_19 rfl ?_
          refine st_getr (i' := 0) dX6_change_20 fl_X6_12 rfl rfl rfl (fun _ => by decide) ?_
          refine st_getr (i' := 0) dX6_change_23 fl_X6_76 rfl rfl rfl (fun _ => by decide) ?_
          refine st_getr (i' := 0) dX6_change_26 fl_X6_112 rfl rfl rfl (fun _ => by decide) ?_
          refine st_iload_n dX6_change_29 rfl ?_
          refine st_iald (j := x.toNat) dX6_change_30 rfl rfl rfl (by omega) (by omega) ?_
          refine st_istore_n (ls' := [some (vr 0 0), some (vi x), some (vi v), some (vi (Mb 3 0 x.toNat))]) dX6_change_31 (by decide) rfl rfl ?_
          refine st_iload_n dX6_change_32 rfl ?_
          refine st_iload_n dX6_change_33 rfl ?_
          refine st_icmp_ne 40 dX6_change_34 (by decide) (fun h34 => ?_) (fun h34 => ?_)
          · skip
            refine st_aload_n dX6_change_40 rfl ?_
            refine st_getr (i' := 0) dX6_change_41 fl_X6_12 rfl rfl rfl (fun _ => by decide) ?_
            refine st_callVv [] [] dX6_change_44 vl_X6_148 rfl rfl rfl rfl (Nat.le_of_ble_eq_true rfl) (by decide) (c_remember hb.1 hb.2.1 hb.2.2.1 hb.2.2.2) (fun Mr qr => ?_)
            subst qr
            refine st_aload_n dX6_change_47 rfl ?_
            refine st_getr (i' := 0) dX6_change_48 fl_X6_12 rfl rfl rfl (fun _ => by decide) ?_
            refine st_getr (i' := 0) dX6_change_51 fl_X6_76 rfl rfl rfl (fun _ => by decide) ?_
            refine st_getr (i' := 0) dX6_change_54 fl_X6_112 rfl rfl rfl (fun _ => by decide) ?_
            refine st_iload_n dX6_change_57 rfl ?_
            refine st_iload_n dX6_change_58 rfl ?_
            refine st_iast (j := x.toNat) dX6_change_59 rfl rfl rfl (by omega) (by omega) ?_
            refine st_iload_n dX6_change_60 rfl ?_
            refine st_ireturn dX6_change_61 rfl ⟨_, rfl, Or.inr ⟨⟨aa, ab⟩, Or.inr ⟨h34, rfl, rfl⟩⟩⟩
          · skip
            refine st_bipush dX6_change_37 (by decide) ?_
            refine st_ireturn dX6_change_39 rfl ⟨_, rfl, Or.inr ⟨⟨aa, ab⟩, Or.inl ⟨h34, rfl, rfl⟩⟩⟩
        · skip
          exact absurd h14 (by omega)
      · skip
        refine st_if_ne 19 dX6_change_14 (by decide) (fun h14 => ?_) (fun h14 => ?_)
        · skip
          exact absurd h14 (by omega)
        · skip
          refine st_iconst dX6_change_17 (by decide) ?_
          refine st_ireturn dX6_change_18 rfl ⟨_, rfl, Or.inl ⟨by omega, rfl, rfl⟩⟩
  · skip
    refine st_if_eq 17 dX6_change_5 (by decide) (fun h5 => ?_) (fun h5 => ?_)
    · skip
      refine st_iconst dX6_change_17 (by decide) ?_
      refine st_ireturn dX6_change_18 rfl ⟨_, rfl, Or.inl ⟨by omega, rfl, rfl⟩⟩
    · skip
      exact absurd h5 (by omega)
set_option maxHeartbeats 4000000 in
set_option maxRecDepth 100000 in
theorem c_put {g : fG} {M : fM} {w : Nat} {p : Int} (hx : xOk M w p) {kn od : Nat} (hb : BkH M kn od) {x v : Int} :
    fCi g Y_X6_put [vr 0 0, vi x, vi v] M (fun z M' => (¬ ((0 ≤ x ∧ x < (w : Int)) ∧ (0 ≤ v ∧ v < p)) ∧ z = -1 ∧ M' = M) ∨ (((0 ≤ x ∧ x < (w : Int)) ∧ (0 ≤ v ∧ v < p)) ∧ ((v = M 4 0 x.toNat ∧ z = -2 ∧ M' = M) ∨ (v ≠ M 4 0 x.toNat ∧ z = M 4 0 x.toNat ∧ M' = fup (bkR M kn od) 4 0 x.toNat v)))) := by
  have hw1 := hx.2.2.1.2.1
  have hp2 := hx.2.1.1
  refine fCi_of _ [some (vr 0 0), some (vi x), some (vi v), none] (by decide) (Nat.le_of_ble_eq_true rfl) rfl (fun h => h) ?_
  refine st_aload_n dX6_put_0 rfl ?_
  refine st_iload_n dX6_put_1 rfl ?_
  refine st_callVi [vi x] [] dX6_put_2 vl_X6_115 rfl rfl rfl rfl (Nat.le_of_ble_eq_true rfl) (by decide) (c_isWithin hx.2.2.1.1 hx.2.2.1.2.1) (fun za Ma qa => ?_)
  obtain ⟨qa, rfl⟩ := qa
  rcases qa with ⟨rfl, aa⟩ | ⟨rfl, aa⟩
  · skip
    refine st_if_eq 17 dX6_put_5 (by decide) (fun h5 => ?_) (fun h5 => ?_)
    · skip
      exact absurd h5 (by omega)
    · skip
      refine st_aload_n dX6_put_8 rfl ?_
      refine st_iload_n dX6_put_9 rfl ?_
      refine st_i2l dX6_put_10 ?_
      refine st_callVi [vl v] [] dX6_put_11 vl_X6_144 rfl rfl rfl rfl (Nat.le_of_ble_eq_true rfl) (by decide) (c_isNumber hx.1) (fun zb Mb qb => ?_)
      obtain ⟨qb, rfl⟩ := qb
      rcases qb with ⟨rfl, ab⟩ | ⟨rfl, ab⟩
      · skip
        refine st_if_ne 19 dX6_put_14 (by decide) (fun h14 => ?_) (fun h14 => ?_)
        · skip
          refine st_aload_n dX6_put_19 rfl ?_
          refine st_getr (i' := 0) dX6_put_20 fl_X6_12 rfl rfl rfl (fun _ => by decide) ?_
          refine st_getr (i' := 0) dX6_put_23 fl_X6_76 rfl rfl rfl (fun _ => by decide) ?_
          refine st_getr (i' := 0) dX6_put_26 fl_X6_118 rfl rfl rfl (fun _ => by decide) ?_
          refine st_iload_n dX6_put_29 rfl ?_
          refine st_iald (j := x.toNat) dX6_put_30 rfl rfl rfl (by omega) (by omega) ?_
          refine st_istore_n (ls' := [some (vr 0 0), some (vi x), some (vi v), some (vi (Mb 4 0 x.toNat))]) dX6_put_31 (by decide) rfl rfl ?_
          refine st_iload_n dX6_put_32 rfl ?_
          refine st_iload_n dX6_put_33 rfl ?_
          refine st_icmp_ne 40 dX6_put_34 (by decide) (fun h34 => ?_) (fun h34 => ?_)
          · skip
            refine st_aload_n dX6_put_40 rfl ?_
            refine st_getr (i' := 0) dX6_put_41 fl_X6_12 rfl rfl rfl (fun _ => by decide) ?_
            refine st_callVv [] [] dX6_put_44 vl_X6_148 rfl rfl rfl rfl (Nat.le_of_ble_eq_true rfl) (by decide) (c_remember hb.1 hb.2.1 hb.2.2.1 hb.2.2.2) (fun Mr qr => ?_)
            subst qr
            refine st_aload_n dX6_put_47 rfl ?_
            refine st_getr (i' := 0) dX6_put_48 fl_X6_12 rfl rfl rfl (fun _ => by decide) ?_
            refine st_getr (i' := 0) dX6_put_51 fl_X6_76 rfl rfl rfl (fun _ => by decide) ?_
            refine st_getr (i' := 0) dX6_put_54 fl_X6_118 rfl rfl rfl (fun _ => by decide) ?_
            refine st_iload_n dX6_put_57 rfl ?_
            refine st_iload_n dX6_put_58 rfl ?_
            refine st_iast (j := x.toNat) dX6_put_59 rfl rfl rfl (by omega) (by omega) ?_
            refine st_iload_n dX6_put_60 rfl ?_
            refine st_ireturn dX6_put_61 rfl ⟨_, rfl, Or.inr ⟨⟨aa, ab⟩, Or.inr ⟨h34, rfl, rfl⟩⟩⟩
          · skip
            refine st_bipush dX6_put_37 (by decide) ?_
            refine st_ireturn dX6_put_39 rfl ⟨_, rfl, Or.inr ⟨⟨aa, ab⟩, Or.inl ⟨h34, rfl, rfl⟩⟩⟩
        · skip
          exact absurd h14 (by omega)
      · skip
        refine st_if_ne 19 dX6_put_14 (by decide) (fun h14 => ?_) (fun h14 => ?_)
        · skip
          exact absurd h14 (by omega)
        · skip
          refine st_iconst dX6_put_17 (by decide) ?_
          refine st_ireturn dX6_put_18 rfl ⟨_, rfl, Or.inl ⟨by omega, rfl, rfl⟩⟩
  · skip
    refine st_if_eq 17 dX6_put_5 (by decide) (fun h5 => ?_) (fun h5 => ?_)
    · skip
      refine st_iconst dX6_put_17 (by decide) ?_
      refine st_ireturn dX6_put_18 rfl ⟨_, rfl, Or.inl ⟨by omega, rfl, rfl⟩⟩
    · skip
      exact absurd h5 (by omega)
set_option maxHeartbeats 4000000 in
set_option maxRecDepth 100000 in
theorem c_shape {g : fG} {M : fM} {w : Nat} {p : Int} (hx : xOk M w p) {kn od : Nat} (hb : BkH M kn od) {v : Int} :
    fCi g Y_X6_shape [vr 0 0, vi v] M (fun z M' => (¬ (0 ≤ v ∧ v < 5) ∧ z = -1 ∧ M' = M) ∨ ((0 ≤ v ∧ v < 5) ∧ ((v = M 2 0 1 ∧ z = -2 ∧ M' = M) ∨ (v ≠ M 2 0 1 ∧ z = M 2 0 1 ∧ M' = fup (bkR M kn od) 2 0 1 v)))) := by
  have hw1 := hx.2.2.1.2.1
  have hp2 := hx.2.1.1
  refine fCi_of _ [some (vr 0 0), some (vi v), none] (by decide) (Nat.le_of_ble_eq_true rfl) rfl (fun h => h) ?_
  refine st_iload_n dX6_shape_0 rfl ?_
  refine st_if_lt 9 dX6_shape_1 (by decide) (fun h1 => ?_) (fun h1 => ?_)
  · skip
    refine st_iconst dX6_shape_9 (by decide) ?_
    refine st_ireturn dX6_shape_10 rfl ⟨_, rfl, Or.inl ⟨by omega, rfl, rfl⟩⟩
  · skip
    refine st_iload_n dX6_shape_4 rfl ?_
    refine st_iconst dX6_shape_5 (by decide) ?_
    refine st_icmp_lt 11 dX6_shape_6 (by decide) (fun h6 => ?_) (fun h6 => ?_)
    · skip
      refine st_aload_n dX6_shape_11 rfl ?_
      refine st_getr (i' := 0) dX6_shape_12 fl_X6_12 rfl rfl rfl (fun _ => by decide) ?_
      refine st_getr (i' := 0) dX6_shape_15 fl_X6_76 rfl rfl rfl (fun _ => by decide) ?_
      refine st_get dX6_shape_18 fl_X6_121 rfl rfl rfl ?_
      refine st_istore_n (ls' := [some (vr 0 0), some (vi v), some (vi (M 2 0 1))]) dX6_shape_21 (by decide) rfl rfl ?_
      refine st_iload_n dX6_shape_22 rfl ?_
      refine st_iload_n dX6_shape_23 rfl ?_
      refine st_icmp_ne 30 dX6_shape_24 (by decide) (fun h24 => ?_) (fun h24 => ?_)
      · skip
        refine st_aload_n dX6_shape_30 rfl ?_
        refine st_getr (i' := 0) dX6_shape_31 fl_X6_12 rfl rfl rfl (fun _ => by decide) ?_
        refine st_callVv [] [] dX6_shape_34 vl_X6_148 rfl rfl rfl rfl (Nat.le_of_ble_eq_true rfl) (by decide) (c_remember hb.1 hb.2.1 hb.2.2.1 hb.2.2.2) (fun Mr qr => ?_)
        subst qr
        refine st_aload_n dX6_shape_37 rfl ?_
        refine st_getr (i' := 0) dX6_shape_38 fl_X6_12 rfl rfl rfl (fun _ => by decide) ?_
        refine st_getr (i' := 0) dX6_shape_41 fl_X6_76 rfl rfl rfl (fun _ => by decide) ?_
        refine st_iload_n dX6_shape_44 rfl ?_
        refine st_put dX6_shape_45 fl_X6_121 fp_X3_1.1 (Or.inl fp_X3_1.2) rfl rfl rfl ?_
        refine st_iload_n dX6_shape_48 rfl ?_
        refine st_ireturn dX6_shape_49 rfl ⟨_, rfl, Or.inr ⟨by omega, Or.inr ⟨h24, rfl, rfl⟩⟩⟩
      · skip
        refine st_bipush dX6_shape_27 (by decide) ?_
        refine st_ireturn dX6_shape_29 rfl ⟨_, rfl, Or.inr ⟨by omega, Or.inl ⟨h24, rfl, rfl⟩⟩⟩
    · skip
      refine st_iconst dX6_shape_9 (by decide) ?_
      refine st_ireturn dX6_shape_10 rfl ⟨_, rfl, Or.inl ⟨by omega, rfl, rfl⟩⟩
theorem bkR_0 {M : fM} {kn od : Nat} {k b : Nat} (hk : k ≠ 1) : bkR M kn od k 0 b = M k 0 b := by
  unfold bkR
  rw [if_neg (by omega), if_neg (by omega), stk_off (by omega)]
theorem bkR_s {M : fM} {kn od w : Nat} {p : Int} (h : sOk M 0 w p) : sOk (bkR M kn od) 0 w p := by
  obtain ⟨h1, h2, h3, h4, h5, h6⟩ := h
  refine ⟨by rw [bkR_0 (by decide)]; exact h1, h2, by rw [bkR_0 (by decide)]; exact h3, fun q hq => by rw [bkR_0 (by decide)]; exact h4 q hq, fun q hq => by rw [bkR_0 (by decide)]; exact h5 q hq, by rw [bkR_0 (by decide)]; exact h6⟩
set_option maxHeartbeats 4000000 in
set_option maxRecDepth 100000 in
theorem c_widen {g : fG} {M : fM} {w : Nat} {p : Int} (hx : xOk M w p) {kn od : Nat} (hb : BkH M kn od) :
    fCi g Y_X6_widen [vr 0 0] M (fun z M' => (6 ≤ w ∧ z = -3 ∧ M' = M) ∨ (w < 6 ∧ z = (w : Int) + 1 ∧ M' = adB (bkR M kn od) 0 w)) := by
  have hw1 := hx.2.2.1.2.1
  have hp2 := hx.2.1.1
  refine fCi_of _ [some (vr 0 0)] (by decide) (Nat.le_of_ble_eq_true rfl) rfl (fun h => h) ?_
  refine st_aload_n dX6_widen_0 rfl ?_
  refine st_getr (i' := 0) dX6_widen_1 fl_X6_12 rfl rfl rfl (fun _ => by decide) ?_
  refine st_getr (i' := 0) dX6_widen_4 fl_X6_76 rfl rfl rfl (fun _ => by decide) ?_
  refine st_get dX6_widen_7 fl_X6_106 rfl rfl rfl ?_
  refine fAt_v (x' := (w : Int)) hx.2.2.1.1 ?_
  refine st_bipush dX6_widen_10 (by decide) ?_
  refine st_icmp_lt 18 dX6_widen_12 (by decide) (fun h12 => ?_) (fun h12 => ?_)
  · skip
    refine st_aload_n dX6_widen_18 rfl ?_
    refine st_getr (i' := 0) dX6_widen_19 fl_X6_12 rfl rfl rfl (fun _ => by decide) ?_
    refine st_callVv [] [] dX6_widen_22 vl_X6_148 rfl rfl rfl rfl (Nat.le_of_ble_eq_true rfl) (by decide) (c_remember hb.1 hb.2.1 hb.2.2.1 hb.2.2.2) (fun Mr qr => ?_)
    subst qr
    refine st_aload_n dX6_widen_25 rfl ?_
    refine st_getr (i' := 0) dX6_widen_26 fl_X6_12 rfl rfl rfl (fun _ => by decide) ?_
    refine st_getr (i' := 0) dX6_widen_29 fl_X6_76 rfl rfl rfl (fun _ => by decide) ?_
    refine st_callVv [] [] dX6_widen_32 vl_X6_151 rfl rfl rfl rfl (Nat.le_of_ble_eq_true rfl) (by decide) (c_addBorder (bkR_s hx.2.2.1).1 (by omega)) (fun Ma qa => ?_)
    subst qa
    refine st_aload_n dX6_widen_35 rfl ?_
    refine st_getr (i' := 0) dX6_widen_36 fl_X6_12 rfl rfl rfl (fun _ => by decide) ?_
    refine st_getr (i' := 0) dX6_widen_39 fl_X6_76 rfl rfl rfl (fun _ => by decide) ?_
    refine st_get dX6_widen_42 fl_X6_106 rfl rfl rfl ?_
    refine fAt_v (x' := (w : Int) + 1) (by unfold adB; rw [if_neg (by omega), if_neg (by omega), if_pos ⟨rfl, rfl, rfl⟩]) ?_
    refine st_ireturn dX6_widen_45 rfl ⟨_, rfl, Or.inr ⟨by omega, rfl, rfl⟩⟩
  · skip
    refine st_bipush dX6_widen_15 (by decide) ?_
    refine st_ireturn dX6_widen_17 rfl ⟨_, rfl, Or.inl ⟨by omega, rfl, rfl⟩⟩
set_option maxHeartbeats 4000000 in
set_option maxRecDepth 100000 in
theorem c_cut {g : fG} {M : fM} {w : Nat} {p : Int} (hx : xOk M w p) {kn od : Nat} (hb : BkH M kn od) :
    fCi g Y_X6_cut [vr 0 0] M (fun z M' => (w = 1 ∧ z = -2 ∧ M' = M) ∨ (1 < w ∧ z = (w : Int) - 1 ∧ M' = drB (bkR M kn od) 0 w)) := by
  have hw1 := hx.2.2.1.2.1
  have hp2 := hx.2.1.1
  refine fCi_of _ [some (vr 0 0)] (by decide) (Nat.le_of_ble_eq_true rfl) rfl (fun h => h) ?_
  refine st_aload_n dX6_cut_0 rfl ?_
  refine st_getr (i' := 0) dX6_cut_1 fl_X6_12 rfl rfl rfl (fun _ => by decide) ?_
  refine st_getr (i' := 0) dX6_cut_4 fl_X6_76 rfl rfl rfl (fun _ => by decide) ?_
  refine st_get dX6_cut_7 fl_X6_106 rfl rfl rfl ?_
  refine fAt_v (x' := (w : Int)) hx.2.2.1.1 ?_
  refine st_iconst dX6_cut_10 (by decide) ?_
  refine st_icmp_gt 17 dX6_cut_11 (by decide) (fun h11 => ?_) (fun h11 => ?_)
  · skip
    refine st_aload_n dX6_cut_17 rfl ?_
    refine st_getr (i' := 0) dX6_cut_18 fl_X6_12 rfl rfl rfl (fun _ => by decide) ?_
    refine st_callVv [] [] dX6_cut_21 vl_X6_148 rfl rfl rfl rfl (Nat.le_of_ble_eq_true rfl) (by decide) (c_remember hb.1 hb.2.1 hb.2.2.1 hb.2.2.2) (fun Mr qr => ?_)
    subst qr
    refine st_aload_n dX6_cut_24 rfl ?_
    refine st_getr (i' := 0) dX6_cut_25 fl_X6_12 rfl rfl rfl (fun _ => by decide) ?_
    refine st_getr (i' := 0) dX6_cut_28 fl_X6_76 rfl rfl rfl (fun _ => by decide) ?_
    refine st_callVv [] [] dX6_cut_31 vl_X6_154 rfl rfl rfl rfl (Nat.le_of_ble_eq_true rfl) (by decide) (c_dropBorder (bkR_s hx.2.2.1).1 (by omega)) (fun Ma qa => ?_)
    subst qa
    refine st_aload_n dX6_cut_34 rfl ?_
    refine st_getr (i' := 0) dX6_cut_35 fl_X6_12 rfl rfl rfl (fun _ => by decide) ?_
    refine st_getr (i' := 0) dX6_cut_38 fl_X6_76 rfl rfl rfl (fun _ => by decide) ?_
    refine st_get dX6_cut_41 fl_X6_106 rfl rfl rfl ?_
    refine fAt_v (x' := (w : Int) - 1) (by unfold drB; rw [if_neg (by omega), if_pos ⟨rfl, rfl, rfl⟩]) ?_
    refine st_ireturn dX6_cut_44 rfl ⟨_, rfl, Or.inr ⟨by omega, rfl, rfl⟩⟩
  · skip
    refine st_bipush dX6_cut_14 (by decide) ?_
    refine st_ireturn dX6_cut_16 rfl ⟨_, rfl, Or.inl ⟨by omega, rfl, rfl⟩⟩
theorem rvA_s {M : fM} {w : Nat} {p : Int} (h : sOk M 0 w p) : sOk (rvA M 0 w) 0 w p := by
  obtain ⟨h1, h2, h3, h4, h5, h6⟩ := h
  refine ⟨h1, h2, h3, fun q hq => ?_, h5, h6⟩
  unfold rvA
  rw [if_pos ⟨rfl, rfl, hq⟩]
  exact h4 _ (by omega)
theorem xOk_of {M M' : fM} {w w' : Nat} {p : Int} (h : xOk M w p) (h1 : M' 1 0 0 = M 1 0 0) (h2 : sOk M' 0 w' p) (h3 : ∀ b, M' 8 0 b = M 8 0 b) (h4 : ∀ b, M' 12 0 b = M 12 0 b) : xOk M' w' p := by
  refine ⟨h1.trans h.1, h.2.1, h2, h.2.2.2.choose, ?_⟩
  obtain ⟨q1, q2, q3⟩ := h.2.2.2.choose_spec
  exact ⟨by rw [h3]; exact q1, q2, fun a a1 a2 => by rw [h4]; exact q3 a a1 a2⟩
theorem bkR_k {M : fM} {kn od : Nat} {k a b : Nat} (hk : k ≠ 1) (h2 : k ≠ 2) (h3 : k ≠ 3) (h4 : k ≠ 4) : bkR M kn od k a b = M k a b := by
  unfold bkR
  rw [if_neg (by omega), if_neg (by omega), stk_off (by omega)]
theorem bkR_p {M : fM} {kn od : Nat} : bkR M kn od 1 0 0 = M 1 0 0 := by
  unfold bkR
  rw [if_neg (by omega), if_neg (by omega), stk_off (by omega)]
set_option maxHeartbeats 4000000 in
set_option maxRecDepth 100000 in
theorem c_turn {g : fG} {M : fM} {w : Nat} {p : Int} (hx : xOk M w p) {kn od : Nat} (hb : BkH M kn od) :
    fCi g Y_X6_turn [vr 0 0] M (fun z M' => z = dt w (eM (rvA (bkR M kn od) 0 w) 0 w p) % p ∧ gS (rvA (bkR M kn od) 0 w) M' ∧ gI M') := by
  have hw1 := hx.2.2.1.2.1
  have hp2 := hx.2.1.1
  refine fCi_of _ [some (vr 0 0)] (by decide) (Nat.le_of_ble_eq_true rfl) rfl (fun h => h) ?_
  refine st_aload_n dX6_turn_0 rfl ?_
  refine st_getr (i' := 0) dX6_turn_1 fl_X6_12 rfl rfl rfl (fun _ => by decide) ?_
  refine st_callVv [] [] dX6_turn_4 vl_X6_148 rfl rfl rfl rfl (Nat.le_of_ble_eq_true rfl) (by decide) (c_remember hb.1 hb.2.1 hb.2.2.1 hb.2.2.2) (fun Mr qr => ?_)
  subst qr
  refine st_aload_n dX6_turn_7 rfl ?_
  refine st_getr (i' := 0) dX6_turn_8 fl_X6_12 rfl rfl rfl (fun _ => by decide) ?_
  refine st_getr (i' := 0) dX6_turn_11 fl_X6_76 rfl rfl rfl (fun _ => by decide) ?_
  refine st_callVv [] [] dX6_turn_14 vl_X6_157 rfl rfl rfl rfl (Nat.le_of_ble_eq_true rfl) (by decide) (c_reverseRow (bkR_s hx.2.2.1).1 hx.2.2.1.2.1) (fun Ma qa => ?_)
  subst qa
  refine st_aload_n dX6_turn_17 rfl ?_
  refine st_callVi [] [] dX6_turn_18 vl_X6_135 rfl rfl rfl rfl (Nat.le_of_ble_eq_true rfl) (by decide) (c_wholeCorner (w := w) (p := p) (xOk_of hx bkR_p (rvA_s (bkR_s hx.2.2.1)) (fun b => show bkR M kn od 8 0 b = _ from bkR_k (by decide) (by decide) (by decide) (by decide)) (fun b => show bkR M kn od 12 0 b = _ from bkR_k (by decide) (by decide) (by decide) (by decide)))) (fun z Mw qw => ?_)
  refine st_ireturn dX6_turn_21 rfl ⟨_, rfl, qw⟩
set_option maxHeartbeats 4000000 in
set_option maxRecDepth 100000 in
theorem c_undo {g : fG} {M : fM} {w : Nat} {p : Int} (hx : xOk M w p) {kn od : Nat} (hb : BkH M kn od) :
    fCi g Y_X6_undo [vr 0 0] M (fun z M' => (kn = 0 ∧ z = -4 ∧ M' = M) ∨ (0 < kn ∧ z = (kn : Int) - 1 ∧ M' = bkS M kn od)) := by
  have hw1 := hx.2.2.1.2.1
  have hp2 := hx.2.1.1
  refine fCi_of _ [some (vr 0 0)] (by decide) (Nat.le_of_ble_eq_true rfl) rfl (fun h => h) ?_
  refine st_aload_n dX6_undo_0 rfl ?_
  refine st_getr (i' := 0) dX6_undo_1 fl_X6_12 rfl rfl rfl (fun _ => by decide) ?_
  refine st_callVi [] [] dX6_undo_4 vl_X6_163 rfl rfl rfl rfl (Nat.le_of_ble_eq_true rfl) (by decide) (c_stepBack hb.1 hb.2.1 hb.2.2.1 hb.2.2.2) (fun z Ma qa => ?_)
  rcases qa with ⟨a1, rfl, rfl⟩ | ⟨a1, rfl, rfl⟩
  · skip
    refine st_if_eq 20 dX6_undo_7 (by decide) (fun h7 => ?_) (fun h7 => ?_)
    · skip
      refine st_bipush dX6_undo_20 (by decide) ?_
      refine st_ireturn dX6_undo_22 rfl ⟨_, rfl, ?_⟩
      first | exact Or.inl ⟨a1, rfl, rfl⟩ | exact Or.inr ⟨a1, rfl, rfl⟩
    · skip
      exact absurd rfl h7
  · skip
    refine st_if_eq 20 dX6_undo_7 (by decide) (fun h7 => ?_) (fun h7 => ?_)
    · skip
      exact absurd h7 (by omega)
    · skip
      refine st_aload_n dX6_undo_10 rfl ?_
      refine st_getr (i' := 0) dX6_undo_11 fl_X6_12 rfl rfl rfl (fun _ => by decide) ?_
      refine st_get dX6_undo_14 fl_X6_141 rfl rfl rfl ?_
      refine fAt_v (x' := (kn : Int) - 1) (by unfold bkS; rw [if_pos ⟨rfl, rfl, rfl⟩]) ?_
      refine st_goto 22 dX6_undo_17 (by decide) ?_
      refine st_ireturn dX6_undo_22 rfl ⟨_, rfl, ?_⟩
      first | exact Or.inl ⟨a1, rfl, rfl⟩ | exact Or.inr ⟨a1, rfl, rfl⟩
set_option maxHeartbeats 4000000 in
set_option maxRecDepth 100000 in
theorem c_seed {g : fG} {M : fM} {v : Int} :
    fCi g Y_X6_seed [vr 0 0, vi v] M (fun z M' => (v < 0 ∧ z = -1 ∧ M' = M) ∨ (0 ≤ v ∧ z = M 2 0 2 ∧ M' = fup M 2 0 2 v)) := by
  refine fCi_of _ [some (vr 0 0), some (vi v), none] (by decide) (Nat.le_of_ble_eq_true rfl) rfl (fun h => h) ?_
  refine st_iload_n dX6_seed_0 rfl ?_
  refine st_if_ge 6 dX6_seed_1 (by decide) (fun h1 => ?_) (fun h1 => ?_)
  · skip
    refine st_aload_n dX6_seed_6 rfl ?_
    refine st_getr (i' := 0) dX6_seed_7 fl_X6_12 rfl rfl rfl (fun _ => by decide) ?_
    refine st_getr (i' := 0) dX6_seed_10 fl_X6_76 rfl rfl rfl (fun _ => by decide) ?_
    refine st_get dX6_seed_13 fl_X6_96 rfl rfl rfl ?_
    refine st_istore_n (ls' := [some (vr 0 0), some (vi v), some (vi (M 2 0 2))]) dX6_seed_16 (by decide) rfl rfl ?_
    refine st_aload_n dX6_seed_17 rfl ?_
    refine st_getr (i' := 0) dX6_seed_18 fl_X6_12 rfl rfl rfl (fun _ => by decide) ?_
    refine st_getr (i' := 0) dX6_seed_21 fl_X6_76 rfl rfl rfl (fun _ => by decide) ?_
    refine st_iload_n dX6_seed_24 rfl ?_
    refine st_put dX6_seed_25 fl_X6_96 fp_X3_2.1 (Or.inl fp_X3_2.2) rfl rfl rfl ?_
    refine st_iload_n dX6_seed_28 rfl ?_
    refine st_ireturn dX6_seed_29 rfl ⟨_, rfl, Or.inr ⟨by omega, rfl, rfl⟩⟩
  · skip
    refine st_iconst dX6_seed_4 (by decide) ?_
    refine st_ireturn dX6_seed_5 rfl ⟨_, rfl, Or.inl ⟨by omega, rfl, rfl⟩⟩
set_option maxHeartbeats 4000000 in
set_option maxRecDepth 100000 in
theorem c_prime {g : fG} {M : fM} {w : Nat} {p : Int} (hx : xOk M w p) {q : Int} :
    fCi g Y_X6_prime [vr 0 0, vi q] M (fun z M' => (¬ pOk q ∧ z = -1 ∧ M' = M) ∨ (pOk q ∧ ((q = p ∧ z = -2 ∧ M' = M) ∨ (q ≠ p ∧ z = p ∧ M' = fup (lvO (fup M 1 0 0 q) 0 q (2 * w - 1) w) 1 0 1 0)))) := by
  have hw1 := hx.2.2.1.2.1
  have hp2 := hx.2.1.1
  refine fCi_of _ [some (vr 0 0), some (vi q), none] (by decide) (Nat.le_of_ble_eq_true rfl) rfl (fun h => h) ?_
  refine st_iload_n dX6_prime_0 rfl ?_
  refine st_callSi [vi q] [] dX6_prime_1 sl_X6_68 rfl rfl (Nat.le_of_ble_eq_true rfl) (by decide) (c_isPrime) (fun za Ma qa => ?_)
  obtain ⟨qa, rfl⟩ := qa
  rcases qa with ⟨rfl, aa⟩ | ⟨rfl, aa⟩
  · skip
    refine st_if_ne 9 dX6_prime_4 (by decide) (fun h4 => ?_) (fun h4 => ?_)
    · skip
      refine st_aload_n dX6_prime_9 rfl ?_
      refine st_getr (i' := 0) dX6_prime_10 fl_X6_12 rfl rfl rfl (fun _ => by decide) ?_
      refine st_get dX6_prime_13 fl_X6_72 rfl rfl rfl ?_
      refine fAt_v (x' := p) hx.1 ?_
      refine st_istore_n (ls' := [some (vr 0 0), some (vi q), some (vi p)]) dX6_prime_16 (by decide) rfl rfl ?_
      refine st_iload_n dX6_prime_17 rfl ?_
      refine st_iload_n dX6_prime_18 rfl ?_
      refine st_icmp_ne 25 dX6_prime_19 (by decide) (fun h19 => ?_) (fun h19 => ?_)
      · skip
        refine st_aload_n dX6_prime_25 rfl ?_
        refine st_getr (i' := 0) dX6_prime_26 fl_X6_12 rfl rfl rfl (fun _ => by decide) ?_
        refine st_iload_n dX6_prime_29 rfl ?_
        refine st_put dX6_prime_30 fl_X6_72 fp_X0_0.1 (Or.inl fp_X0_0.2) rfl rfl rfl ?_
        refine st_aload_n dX6_prime_33 rfl ?_
        refine st_getr (i' := 0) dX6_prime_34 fl_X6_12 rfl rfl rfl (fun _ => by decide) ?_
        refine st_getr (i' := 0) dX6_prime_37 fl_X6_76 rfl rfl rfl (fun _ => by decide) ?_
        refine st_iload_n dX6_prime_40 rfl ?_
        refine st_callVv [vi q] [] dX6_prime_41 vl_X6_79 rfl rfl rfl rfl (Nat.le_of_ble_eq_true rfl) (by decide) (c_leaveOver (M := fup Ma 1 0 0 q) (w := w) hx.2.2.1.1 hx.2.2.1.2.1 (by have := aa.1; omega) (fun j hj => (hx.2.2.1.2.2.2.1 j hj).1) (fun j hj => (hx.2.2.1.2.2.2.2.1 j hj).1)) (fun Mb qb => ?_)
        subst qb
        refine st_aload_n dX6_prime_44 rfl ?_
        refine st_getr (i' := 0) dX6_prime_45 fl_X6_12 rfl rfl rfl (fun _ => by decide) ?_
        refine st_callVv [] [] dX6_prime_48 vl_X6_83 rfl rfl rfl rfl (Nat.le_of_ble_eq_true rfl) (by decide) (c_forget) (fun Mc qc => ?_)
        subst qc
        refine st_iload_n dX6_prime_51 rfl ?_
        refine st_ireturn dX6_prime_52 rfl ⟨_, rfl, Or.inr ⟨aa, Or.inr ⟨h19, rfl, rfl⟩⟩⟩
      · skip
        refine st_bipush dX6_prime_22 (by decide) ?_
        refine st_ireturn dX6_prime_24 rfl ⟨_, rfl, Or.inr ⟨aa, Or.inl ⟨h19, rfl, rfl⟩⟩⟩
    · skip
      exact absurd h4 (by omega)
  · skip
    refine st_if_ne 9 dX6_prime_4 (by decide) (fun h4 => ?_) (fun h4 => ?_)
    · skip
      exact absurd h4 (by omega)
    · skip
      refine st_iconst dX6_prime_7 (by decide) ?_
      refine st_ireturn dX6_prime_8 rfl ⟨_, rfl, Or.inl ⟨aa, rfl, rfl⟩⟩
set_option maxHeartbeats 4000000 in
set_option maxRecDepth 100000 in
theorem c_takeLetter {g : fG} {M : fM} {c : Int} {n : Nat} (hn : M 6 0 0 = (n : Int)) (hn7 : n ≤ 70) :
    fCi g Y_X2_takeLetter [vr 6 0, vi c] M (fun z M' => (70 ≤ n ∧ z = 0 ∧ M' = M) ∨ (n < 70 ∧ z = 1 ∧ M' = fup (fup M 7 0 n c) 6 0 0 ((n : Int) + 1))) := by
  refine fCi_of _ [some (vr 6 0), some (vi c)] (by decide) (Nat.le_of_ble_eq_true rfl) rfl (fun h => h) ?_
  refine st_aload_n dX2_takeLetter_0 rfl ?_
  refine st_get dX2_takeLetter_1 fl_X2_9 rfl rfl rfl ?_
  refine fAt_v (x' := (n : Int)) hn ?_
  refine st_bipush dX2_takeLetter_4 (by decide) ?_
  refine st_icmp_lt 11 dX2_takeLetter_6 (by decide) (fun h6 => ?_) (fun h6 => ?_)
  · skip
    refine st_aload_n dX2_takeLetter_11 rfl ?_
    refine st_getr (i' := 0) dX2_takeLetter_12 fl_X2_22 rfl rfl rfl (fun _ => by decide) ?_
    refine st_aload_n dX2_takeLetter_15 rfl ?_
    refine st_get dX2_takeLetter_16 fl_X2_9 rfl rfl rfl ?_
    refine fAt_v (x' := (n : Int)) hn ?_
    refine st_iload_n dX2_takeLetter_19 rfl ?_
    refine st_iast (j := n) dX2_takeLetter_20 rfl rfl rfl rfl (by omega) ?_
    refine st_aload_n dX2_takeLetter_21 rfl ?_
    refine st_dup dX2_takeLetter_22 rfl ?_
    refine st_get dX2_takeLetter_23 fl_X2_9 rfl rfl rfl ?_
    refine fAt_v (x' := (n : Int)) hn ?_
    refine st_iconst dX2_takeLetter_26 (by decide) ?_
    refine st_iadd dX2_takeLetter_27 (by omega) ?_
    refine st_put dX2_takeLetter_28 fl_X2_9 fp_X2_0.1 (Or.inl fp_X2_0.2) rfl rfl rfl ?_
    refine st_iconst dX2_takeLetter_31 (by decide) ?_
    refine st_zreturn dX2_takeLetter_32 rfl (by omega) ⟨_, rfl, Or.inr ⟨by omega, rfl, rfl⟩⟩
  · skip
    refine st_iconst dX2_takeLetter_9 (by decide) ?_
    refine st_zreturn dX2_takeLetter_10 rfl (by omega) ⟨_, rfl, Or.inl ⟨by omega, rfl, rfl⟩⟩
set_option maxHeartbeats 4000000 in
set_option maxRecDepth 100000 in
theorem c_type {g : fG} {M : fM} {c : Int} {n : Nat} (hn : M 6 0 0 = (n : Int)) (hn7 : n ≤ 70) :
    fCi g Y_X6_type [vr 0 0, vi c] M (fun z M' => (¬ (32 ≤ c ∧ c ≤ 126) ∧ z = -1 ∧ M' = M) ∨ ((32 ≤ c ∧ c ≤ 126) ∧ ((70 ≤ n ∧ z = -3 ∧ M' = M) ∨ (n < 70 ∧ z = (n : Int) + 1 ∧ M' = fup (fup M 7 0 n c) 6 0 0 ((n : Int) + 1))))) := by
  refine fCi_of _ [some (vr 0 0), some (vi c)] (by decide) (Nat.le_of_ble_eq_true rfl) rfl (fun h => h) ?_
  refine st_iload_n dX6_type_0 rfl ?_
  refine st_bipush dX6_type_1 (by decide) ?_
  refine st_icmp_lt 12 dX6_type_3 (by decide) (fun h3 => ?_) (fun h3 => ?_)
  · skip
    refine st_iconst dX6_type_12 (by decide) ?_
    refine st_ireturn dX6_type_13 rfl ⟨_, rfl, Or.inl ⟨by omega, rfl, rfl⟩⟩
  · skip
    refine st_iload_n dX6_type_6 rfl ?_
    refine st_bipush dX6_type_7 (by decide) ?_
    refine st_icmp_le 14 dX6_type_9 (by decide) (fun h9 => ?_) (fun h9 => ?_)
    · skip
      refine st_aload_n dX6_type_14 rfl ?_
      refine st_getr (i' := 0) dX6_type_15 fl_X6_26 rfl rfl rfl (fun _ => by decide) ?_
      refine st_iload_n dX6_type_18 rfl ?_
      refine st_callVi [vi c] [] dX6_type_19 vl_X6_86 rfl rfl rfl rfl (Nat.le_of_ble_eq_true rfl) (by decide) (c_takeLetter hn hn7) (fun z Ma qa => ?_)
      rcases qa with ⟨a1, rfl, rfl⟩ | ⟨a1, rfl, rfl⟩
      · skip
        refine st_if_eq 35 dX6_type_22 (by decide) (fun h22 => ?_) (fun h22 => ?_)
        · skip
          refine st_bipush dX6_type_35 (by decide) ?_
          refine st_ireturn dX6_type_37 rfl ⟨_, rfl, ?_⟩
          first | exact Or.inr ⟨by omega, Or.inl ⟨a1, rfl, rfl⟩⟩ | exact Or.inr ⟨by omega, Or.inr ⟨a1, rfl, rfl⟩⟩
        · skip
          exact absurd rfl h22
      · skip
        refine st_if_eq 35 dX6_type_22 (by decide) (fun h22 => ?_) (fun h22 => ?_)
        · skip
          exact absurd h22 (by omega)
        · skip
          refine st_aload_n dX6_type_25 rfl ?_
          refine st_getr (i' := 0) dX6_type_26 fl_X6_26 rfl rfl rfl (fun _ => by decide) ?_
          refine st_get dX6_type_29 fl_X6_89 rfl rfl rfl ?_
          refine fAt_v (x' := (n : Int) + 1) fup_eq ?_
          refine st_goto 37 dX6_type_32 (by decide) ?_
          refine st_ireturn dX6_type_37 rfl ⟨_, rfl, ?_⟩
          first | exact Or.inr ⟨by omega, Or.inl ⟨a1, rfl, rfl⟩⟩ | exact Or.inr ⟨by omega, Or.inr ⟨a1, rfl, rfl⟩⟩
    · skip
      refine st_iconst dX6_type_12 (by decide) ?_
      refine st_ireturn dX6_type_13 rfl ⟨_, rfl, Or.inl ⟨by omega, rfl, rfl⟩⟩
