/-! ===== constructors: settings, sheets, readers, wipes ===== -/
def stU (g : fG) (b : Nat) (cs : Nat → va_E) (j n : Nat) : Nat → va_E := (cu (cu (cu (cu (cu (cu (cu cs j (.inr (3, [.int 1, .int 0, .int 0, .null, .null]))) j (.inr (3, [.int 1, .int 0, .int 0, .null, .null]))) j (.inr (3, [.int 1, .int 0, .int 1, .null, .null]))) n (.inl (g.2.2.2 0, 11, .inl (fun _ => 0)))) j (.inr (3, [.int 1, .int 0, .int 1, .ref (b + n), .null]))) (n + 1) (.inl (g.2.2.2 0, 6, .inl (fun _ => 0)))) j (.inr (3, [.int 1, .int 0, .int 1, .ref (b + n), .ref (b + (n + 1))])))
theorem stU_ne {g : fG} {b : Nat} {cs : Nat → va_E} {j n i : Nat} (h1 : i ≠ j) (h2 : i < n) : stU g b cs j n i = cs i := by
  unfold stU
  exact ((cu_ne (by omega)).trans ((cu_ne (by omega)).trans ((cu_ne (by omega)).trans ((cu_ne (by omega)).trans ((cu_ne (by omega)).trans ((cu_ne (by omega)).trans (cu_ne (by omega))))))))
theorem stU_j {g : fG} {b : Nat} {cs : Nat → va_E} {j n : Nat} (hj : j < n) : stU g b cs j n j = .inr (3, [.int 1, .int 0, .int 1, .ref (b + n), .ref (b + (n + 1))]) := by
  unfold stU
  exact cu_eq
set_option maxHeartbeats 4000000 in
set_option maxRecDepth 100000 in
theorem c_X3_init {g : fG} {b : Nat} {cs : Nat → va_E} {j n : Nat} (hj : j < n) (h0 : cs j = .inr (3, [.int 0, .int 0, .int 0, .null, .null])) : cCt g Y_X3_init 2 17 b j n cs (n + 2) (stU g b cs j n) := by
  refine cCt_of (by decide) (by decide) rfl ?_
  refine cn_aload 0 dX3_init_0 rfl ?_
  refine cn_obj dX3_init_1 ob_X3 ob_i ob_c (by decide) (Nat.le_of_ble_eq_true rfl) ?_
  refine cn_aload 0 dX3_init_4 rfl ?_
  refine cn_iconst 1 dX3_init_5 (by decide) ?_
  refine cn_putI (fs' := [.int 1, .int 0, .int 0, .null, .null]) dX3_init_6 fl_X3_9 fp_X3_0.1 (Or.inl fp_X3_0.2) (by omega) h0 (Nat.le_of_ble_eq_true rfl) rfl ?_
  refine cn_aload 0 dX3_init_9 rfl ?_
  refine cn_iconst 0 dX3_init_10 (by decide) ?_
  refine cn_putI (fs' := [.int 1, .int 0, .int 0, .null, .null]) dX3_init_11 fl_X3_15 fp_X3_1.1 (Or.inl fp_X3_1.2) (by omega) cu_eq (Nat.le_of_ble_eq_true rfl) rfl ?_
  refine cn_aload 0 dX3_init_14 rfl ?_
  refine cn_iconst 1 dX3_init_15 (by decide) ?_
  refine cn_putI (fs' := [.int 1, .int 0, .int 1, .null, .null]) dX3_init_16 fl_X3_18 fp_X3_2.1 (Or.inl fp_X3_2.2) (by omega) cu_eq (Nat.le_of_ble_eq_true rfl) rfl ?_
  refine cn_aload 0 dX3_init_19 rfl ?_
  refine cn_bipush 11 dX3_init_20 (by decide) ?_
  refine cn_newi (N := 11) dX3_init_22 ac_i (by decide) (by decide) (by decide) (by decide) (by decide) ?_
  refine cn_putR (fs' := [.int 1, .int 0, .int 1, .ref (b + n), .null]) dX3_init_24 fl_X3_21 rk_X3_3 rfl (by omega) ((cu_ne (by omega)).trans cu_eq) (Nat.le_of_ble_eq_true rfl) rfl ?_
  refine cn_aload 0 dX3_init_27 rfl ?_
  refine cn_bipush 6 dX3_init_28 (by decide) ?_
  refine cn_newi (N := 6) dX3_init_30 ac_i (by decide) (by decide) (by decide) (by decide) (by decide) ?_
  refine cn_putR (fs' := [.int 1, .int 0, .int 1, .ref (b + n), .ref (b + (n + 1))]) dX3_init_32 fl_X3_25 rk_X3_4 rfl (by omega) ((cu_ne (by omega)).trans cu_eq) (Nat.le_of_ble_eq_true rfl) rfl ?_
  exact cn_ret dX3_init_35 rfl
def sheU (g : fG) (b : Nat) (cs : Nat → va_E) (j n : Nat) : Nat → va_E := (cu (cu (cu (cu cs j (.inr (4, [.int (-1), .int 0, .null]))) j (.inr (4, [.int (-1), .int 0, .null]))) n (.inl (g.2.2.2 1, 24, .inr (.inl (fun _ => 0))))) j (.inr (4, [.int (-1), .int 0, .ref (b + n)])))
theorem sheU_ne {g : fG} {b : Nat} {cs : Nat → va_E} {j n i : Nat} (h1 : i ≠ j) (h2 : i < n) : sheU g b cs j n i = cs i := by
  unfold sheU
  exact ((cu_ne (by omega)).trans ((cu_ne (by omega)).trans ((cu_ne (by omega)).trans (cu_ne (by omega)))))
theorem sheU_j {g : fG} {b : Nat} {cs : Nat → va_E} {j n : Nat} (hj : j < n) : sheU g b cs j n j = .inr (4, [.int (-1), .int 0, .ref (b + n)]) := by
  unfold sheU
  exact cu_eq
set_option maxHeartbeats 4000000 in
set_option maxRecDepth 100000 in
theorem c_X4_init {g : fG} {b : Nat} {cs : Nat → va_E} {j n : Nat} (hj : j < n) (h0 : cs j = .inr (4, [.int 0, .int 0, .null])) : cCt g Y_X4_init 1 24 b j n cs (n + 1) (sheU g b cs j n) := by
  refine cCt_of (by decide) (by decide) rfl ?_
  refine cn_aload 0 dX4_init_0 rfl ?_
  refine cn_obj dX4_init_1 ob_X4 ob_i ob_c (by decide) (Nat.le_of_ble_eq_true rfl) ?_
  refine cn_aload 0 dX4_init_4 rfl ?_
  refine cn_iconst (-1) dX4_init_5 (by decide) ?_
  refine cn_putI (fs' := [.int (-1), .int 0, .null]) dX4_init_6 fl_X4_11 fp_X4_0.1 (Or.inl fp_X4_0.2) (by omega) h0 (Nat.le_of_ble_eq_true rfl) rfl ?_
  refine cn_aload 0 dX4_init_9 rfl ?_
  refine cn_iconst 0 dX4_init_10 (by decide) ?_
  refine cn_putI (fs' := [.int (-1), .int 0, .null]) dX4_init_11 fl_X4_15 fp_X4_1.1 (Or.inl fp_X4_1.2) (by omega) cu_eq (Nat.le_of_ble_eq_true rfl) rfl ?_
  refine cn_aload 0 dX4_init_14 rfl ?_
  refine cn_bipush 24 dX4_init_15 (by decide) ?_
  refine cn_newl (N := 24) dX4_init_17 ac_l (by decide) (by decide) (by decide) (by decide) (by decide) ?_
  refine cn_putR (fs' := [.int (-1), .int 0, .ref (b + n)]) dX4_init_19 fl_X4_18 rk_X4_2 rfl (by omega) ((cu_ne (by omega)).trans cu_eq) (Nat.le_of_ble_eq_true rfl) rfl ?_
  exact cn_ret dX4_init_22 rfl
def rdU (g : fG) (b : Nat) (cs : Nat → va_E) (j n : Nat) : Nat → va_E := (cu (cu (cu (cu (cu (cu (stU g b (cu (cu cs j (.inr (2, [.int 0, .null, .null, .int 0, .int 0, .int 0]))) n (.inr (3, [.int 0, .int 0, .int 0, .null, .null]))) n (n + 1)) j (.inr (2, [.int 0, .ref (b + n), .null, .int 0, .int 0, .int 0]))) (n + 1 + 2) (.inl (g.2.2.2 0, 70, .inl (fun _ => 0)))) j (.inr (2, [.int 0, .ref (b + n), .ref (b + (n + 1 + 2)), .int 0, .int 0, .int 0]))) j (.inr (2, [.int 0, .ref (b + n), .ref (b + (n + 1 + 2)), .int 0, .int 0, .int 0]))) j (.inr (2, [.int 0, .ref (b + n), .ref (b + (n + 1 + 2)), .int 0, .int 0, .int 0]))) j (.inr (2, [.int 0, .ref (b + n), .ref (b + (n + 1 + 2)), .int 0, .int 0, .int 0])))
theorem rdU_ne {g : fG} {b : Nat} {cs : Nat → va_E} {j n i : Nat} (h1 : i ≠ j) (h2 : i < n) : rdU g b cs j n i = cs i := by
  unfold rdU
  exact ((cu_ne (by omega)).trans ((cu_ne (by omega)).trans ((cu_ne (by omega)).trans ((cu_ne (by omega)).trans ((cu_ne (by omega)).trans ((cu_ne (by omega)).trans ((stU_ne (by omega) (by omega)).trans ((cu_ne (by omega)).trans (cu_ne (by omega))))))))))
theorem rdU_j {g : fG} {b : Nat} {cs : Nat → va_E} {j n : Nat} (hj : j < n) : rdU g b cs j n j = .inr (2, [.int 0, .ref (b + n), .ref (b + (n + 1 + 2)), .int 0, .int 0, .int 0]) := by
  unfold rdU
  exact cu_eq
set_option maxHeartbeats 4000000 in
set_option maxRecDepth 100000 in
theorem c_X2_init {g : fG} {b : Nat} {cs : Nat → va_E} {j n : Nat} (hj : j < n) (h0 : cs j = .inr (2, [.int 0, .null, .null, .int 0, .int 0, .int 0])) : cCt g Y_X2_init 4 92 b j n cs (n + 4) (rdU g b cs j n) := by
  refine cCt_of (by decide) (by decide) rfl ?_
  refine cn_aload 0 dX2_init_0 rfl ?_
  refine cn_obj dX2_init_1 ob_X2 ob_i ob_c (by decide) (Nat.le_of_ble_eq_true rfl) ?_
  refine cn_aload 0 dX2_init_4 rfl ?_
  refine cn_iconst 0 dX2_init_5 (by decide) ?_
  refine cn_putI (fs' := [.int 0, .null, .null, .int 0, .int 0, .int 0]) dX2_init_6 fl_X2_9 fp_X2_0.1 (Or.inl fp_X2_0.2) (by omega) h0 (Nat.le_of_ble_eq_true rfl) rfl ?_
  refine cn_aload 0 dX2_init_9 rfl ?_
  refine cn_new dX2_init_10 nk_X2_15 (by decide) (by decide) ?_
  refine cn_dup dX2_init_13 ?_
  refine cn_callN dX2_init_14 il_X2_17 (c_X3_init (by omega) cu_eq) ⟨by decide, by decide⟩ ⟨(by decide), (by decide)⟩ (Nat.le_of_ble_eq_true rfl) ?_
  refine cn_putR (fs' := [.int 0, .ref (b + n), .null, .int 0, .int 0, .int 0]) dX2_init_17 fl_X2_18 rk_X2_1 rfl (by omega) ((stU_ne (by omega) (by omega)).trans ((cu_ne (by omega)).trans cu_eq)) (Nat.le_of_ble_eq_true rfl) rfl ?_
  refine cn_aload 0 dX2_init_20 rfl ?_
  refine cn_bipush 70 dX2_init_21 (by decide) ?_
  refine cn_newi (N := 70) dX2_init_23 ac_i (by decide) (by decide) (by decide) (by decide) (by decide) ?_
  refine cn_putR (fs' := [.int 0, .ref (b + n), .ref (b + (n + 1 + 2)), .int 0, .int 0, .int 0]) dX2_init_25 fl_X2_22 rk_X2_2 rfl (by omega) ((cu_ne (by omega)).trans cu_eq) (Nat.le_of_ble_eq_true rfl) rfl ?_
  refine cn_aload 0 dX2_init_28 rfl ?_
  refine cn_iconst 0 dX2_init_29 (by decide) ?_
  refine cn_putI (fs' := [.int 0, .ref (b + n), .ref (b + (n + 1 + 2)), .int 0, .int 0, .int 0]) dX2_init_30 fl_X2_26 fp_X2_3.1 (Or.inl fp_X2_3.2) (by omega) cu_eq (Nat.le_of_ble_eq_true rfl) rfl ?_
  refine cn_aload 0 dX2_init_33 rfl ?_
  refine cn_iconst 0 dX2_init_34 (by decide) ?_
  refine cn_putI (fs' := [.int 0, .ref (b + n), .ref (b + (n + 1 + 2)), .int 0, .int 0, .int 0]) dX2_init_35 fl_X2_29 fp_X2_4.1 (Or.inl fp_X2_4.2) (by omega) cu_eq (Nat.le_of_ble_eq_true rfl) rfl ?_
  refine cn_aload 0 dX2_init_38 rfl ?_
  refine cn_iconst 0 dX2_init_39 (by decide) ?_
  refine cn_putI (fs' := [.int 0, .ref (b + n), .ref (b + (n + 1 + 2)), .int 0, .int 0, .int 0]) dX2_init_40 fl_X2_32 fp_X2_5.1 (Or.inl fp_X2_5.2) (by omega) cu_eq (Nat.le_of_ble_eq_true rfl) rfl ?_
  exact cn_ret dX2_init_43 rfl
def wpU (g : fG) (b : Nat) (cs : Nat → va_E) (j n : Nat) : Nat → va_E := (cu (stU g b (cu (cu (cu (cu (cu (cu (cu cs n (.inl (g.2.2.2 1, 12, .inr (.inl (fun _ => 0))))) j (.inr (5, [.ref (b + n), .null, .int 0, .int 0, .null]))) (n + 1) (.inl (g.2.2.2 0, 11, .inl (fun _ => 0)))) j (.inr (5, [.ref (b + n), .ref (b + (n + 1)), .int 0, .int 0, .null]))) j (.inr (5, [.ref (b + n), .ref (b + (n + 1)), .int 0, .int 0, .null]))) j (.inr (5, [.ref (b + n), .ref (b + (n + 1)), .int 0, .int 0, .null]))) (n + 1 + 1) (.inr (3, [.int 0, .int 0, .int 0, .null, .null]))) (n + 1 + 1) (n + 1 + 1 + 1)) j (.inr (5, [.ref (b + n), .ref (b + (n + 1)), .int 0, .int 0, .ref (b + (n + 1 + 1))])))
theorem wpU_ne {g : fG} {b : Nat} {cs : Nat → va_E} {j n i : Nat} (h1 : i ≠ j) (h2 : i < n) : wpU g b cs j n i = cs i := by
  unfold wpU
  exact ((cu_ne (by omega)).trans ((stU_ne (by omega) (by omega)).trans ((cu_ne (by omega)).trans ((cu_ne (by omega)).trans ((cu_ne (by omega)).trans ((cu_ne (by omega)).trans ((cu_ne (by omega)).trans ((cu_ne (by omega)).trans (cu_ne (by omega))))))))))
theorem wpU_j {g : fG} {b : Nat} {cs : Nat → va_E} {j n : Nat} (hj : j < n) : wpU g b cs j n j = .inr (5, [.ref (b + n), .ref (b + (n + 1)), .int 0, .int 0, .ref (b + (n + 1 + 1))]) := by
  unfold wpU
  exact cu_eq
set_option maxHeartbeats 4000000 in
set_option maxRecDepth 100000 in
theorem c_X5_init {g : fG} {b : Nat} {cs : Nat → va_E} {j n : Nat} (hj : j < n) (h0 : cs j = .inr (5, [.null, .null, .int 0, .int 0, .null])) : cCt g Y_X5_init 5 45 b j n cs (n + 5) (wpU g b cs j n) := by
  refine cCt_of (by decide) (by decide) rfl ?_
  refine cn_aload 0 dX5_init_0 rfl ?_
  refine cn_obj dX5_init_1 ob_X5 ob_i ob_c (by decide) (Nat.le_of_ble_eq_true rfl) ?_
  refine cn_aload 0 dX5_init_4 rfl ?_
  refine cn_bipush 12 dX5_init_5 (by decide) ?_
  refine cn_newl (N := 12) dX5_init_7 ac_l (by decide) (by decide) (by decide) (by decide) (by decide) ?_
  refine cn_putR (fs' := [.ref (b + n), .null, .int 0, .int 0, .null]) dX5_init_9 fl_X5_9 rk_X5_0 rfl (by omega) ((cu_ne (by omega)).trans h0) (Nat.le_of_ble_eq_true rfl) rfl ?_
  refine cn_aload 0 dX5_init_12 rfl ?_
  refine cn_bipush 11 dX5_init_13 (by decide) ?_
  refine cn_newi (N := 11) dX5_init_15 ac_i (by decide) (by decide) (by decide) (by decide) (by decide) ?_
  refine cn_putR (fs' := [.ref (b + n), .ref (b + (n + 1)), .int 0, .int 0, .null]) dX5_init_17 fl_X5_15 rk_X5_1 rfl (by omega) ((cu_ne (by omega)).trans cu_eq) (Nat.le_of_ble_eq_true rfl) rfl ?_
  refine cn_aload 0 dX5_init_20 rfl ?_
  refine cn_iconst 0 dX5_init_21 (by decide) ?_
  refine cn_putI (fs' := [.ref (b + n), .ref (b + (n + 1)), .int 0, .int 0, .null]) dX5_init_22 fl_X5_19 fp_X5_2.1 (Or.inl fp_X5_2.2) (by omega) cu_eq (Nat.le_of_ble_eq_true rfl) rfl ?_
  refine cn_aload 0 dX5_init_25 rfl ?_
  refine cn_iconst 0 dX5_init_26 (by decide) ?_
  refine cn_putI (fs' := [.ref (b + n), .ref (b + (n + 1)), .int 0, .int 0, .null]) dX5_init_27 fl_X5_23 fp_X5_3.1 (Or.inl fp_X5_3.2) (by omega) cu_eq (Nat.le_of_ble_eq_true rfl) rfl ?_
  refine cn_aload 0 dX5_init_30 rfl ?_
  refine cn_new dX5_init_31 nk_X5_26 (by decide) (by decide) ?_
  refine cn_dup dX5_init_34 ?_
  refine cn_callN dX5_init_35 il_X5_28 (c_X3_init (by omega) cu_eq) ⟨by decide, by decide⟩ ⟨(by decide), (by decide)⟩ (Nat.le_of_ble_eq_true rfl) ?_
  refine cn_putR (fs' := [.ref (b + n), .ref (b + (n + 1)), .int 0, .int 0, .ref (b + (n + 1 + 1))]) dX5_init_38 fl_X5_29 rk_X5_4 rfl (by omega) ((stU_ne (by omega) (by omega)).trans ((cu_ne (by omega)).trans cu_eq)) (Nat.le_of_ble_eq_true rfl) rfl ?_
  exact cn_ret dX5_init_41 rfl
