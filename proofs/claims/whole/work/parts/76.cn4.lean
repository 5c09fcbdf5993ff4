/-! ===== constructors: books ===== -/
def bkU (g : fG) (b : Nat) (cs : Nat → va_E) (j n : Nat) : Nat → va_E := (cu (stU g b (cu (cu (stU g b (cu (cu (stU g b (cu (cu (stU g b (cu (cu (stU g b (cu (cu (stU g b (cu (cu (stU g b (cu (cu (stU g b (cu (cu (cu (cu (cu (stU g b (cu (cu (cu cs j (.inr (0, [.int 7, .int 0, .null, .int 0, .null]))) j (.inr (0, [.int 7, .int 0, .null, .int 0, .null]))) n (.inr (3, [.int 0, .int 0, .int 0, .null, .null]))) n (n + 1)) j (.inr (0, [.int 7, .int 0, .ref (b + n), .int 0, .null]))) j (.inr (0, [.int 7, .int 0, .ref (b + n), .int 0, .null]))) (n + 1 + 2) (.inl (g.2.2.2 2, 8, .inr (.inr (.inr (.inr (fun _ => none))))))) j (.inr (0, [.int 7, .int 0, .ref (b + n), .int 0, .ref (b + (n + 1 + 2))]))) (n + 1 + 2 + 1) (.inr (3, [.int 0, .int 0, .int 0, .null, .null]))) (n + 1 + 2 + 1) (n + 1 + 2 + 1 + 1)) (n + 1 + 2) (.inl (g.2.2.2 2, 8, .inr (.inr (.inr (.inr (va_up (fun _ => none) 0 (some (b + (n + 1 + 2 + 1)))))))))) (n + 1 + 2 + 1 + 1 + 2) (.inr (3, [.int 0, .int 0, .int 0, .null, .null]))) (n + 1 + 2 + 1 + 1 + 2) (n + 1 + 2 + 1 + 1 + 2 + 1)) (n + 1 + 2) (.inl (g.2.2.2 2, 8, .inr (.inr (.inr (.inr (va_up (va_up (fun _ => none) 0 (some (b + (n + 1 + 2 + 1)))) 1 (some (b + (n + 1 + 2 + 1 + 1 + 2)))))))))) (n + 1 + 2 + 1 + 1 + 2 + 1 + 2) (.inr (3, [.int 0, .int 0, .int 0, .null, .null]))) (n + 1 + 2 + 1 + 1 + 2 + 1 + 2) (n + 1 + 2 + 1 + 1 + 2 + 1 + 2 + 1)) (n + 1 + 2) (.inl (g.2.2.2 2, 8, .inr (.inr (.inr (.inr (va_up (va_up (va_up (fun _ => none) 0 (some (b + (n + 1 + 2 + 1)))) 1 (some (b + (n + 1 + 2 + 1 + 1 + 2)))) 2 (some (b + (n + 1 + 2 + 1 + 1 + 2 + 1 + 2)))))))))) (n + 1 + 2 + 1 + 1 + 2 + 1 + 2 + 1 + 2) (.inr (3, [.int 0, .int 0, .int 0, .null, .null]))) (n + 1 + 2 + 1 + 1 + 2 + 1 + 2 + 1 + 2) (n + 1 + 2 + 1 + 1 + 2 + 1 + 2 + 1 + 2 + 1)) (n + 1 + 2) (.inl (g.2.2.2 2, 8, .inr (.inr (.inr (.inr (va_up (va_up (va_up (va_up (fun _ => none) 0 (some (b + (n + 1 + 2 + 1)))) 1 (some (b + (n + 1 + 2 + 1 + 1 + 2)))) 2 (some (b + (n + 1 + 2 + 1 + 1 + 2 + 1 + 2)))) 3 (some (b + (n + 1 + 2 + 1 + 1 + 2 + 1 + 2 + 1 + 2)))))))))) (n + 1 + 2 + 1 + 1 + 2 + 1 + 2 + 1 + 2 + 1 + 2) (.inr (3, [.int 0, .int 0, .int 0, .null, .null]))) (n + 1 + 2 + 1 + 1 + 2 + 1 + 2 + 1 + 2 + 1 + 2) (n + 1 + 2 + 1 + 1 + 2 + 1 + 2 + 1 + 2 + 1 + 2 + 1)) (n + 1 + 2) (.inl (g.2.2.2 2, 8, .inr (.inr (.inr (.inr (va_up (va_up (va_up (va_up (va_up (fun _ => none) 0 (some (b + (n + 1 + 2 + 1)))) 1 (some (b + (n + 1 + 2 + 1 + 1 + 2)))) 2 (some (b + (n + 1 + 2 + 1 + 1 + 2 + 1 + 2)))) 3 (some (b + (n + 1 + 2 + 1 + 1 + 2 + 1 + 2 + 1 + 2)))) 4 (some (b + (n + 1 + 2 + 1 + 1 + 2 + 1 + 2 + 1 + 2 + 1 + 2)))))))))) (n + 1 + 2 + 1 + 1 + 2 + 1 + 2 + 1 + 2 + 1 + 2 + 1 + 2) (.inr (3, [.int 0, .int 0, .int 0, .null, .null]))) (n + 1 + 2 + 1 + 1 + 2 + 1 + 2 + 1 + 2 + 1 + 2 + 1 + 2) (n + 1 + 2 + 1 + 1 + 2 + 1 + 2 + 1 + 2 + 1 + 2 + 1 + 2 + 1)) (n + 1 + 2) (.inl (g.2.2.2 2, 8, .inr (.inr (.inr (.inr (va_up (va_up (va_up (va_up (va_up (va_up (fun _ => none) 0 (some (b + (n + 1 + 2 + 1)))) 1 (some (b + (n + 1 + 2 + 1 + 1 + 2)))) 2 (some (b + (n + 1 + 2 + 1 + 1 + 2 + 1 + 2)))) 3 (some (b + (n + 1 + 2 + 1 + 1 + 2 + 1 + 2 + 1 + 2)))) 4 (some (b + (n + 1 + 2 + 1 + 1 + 2 + 1 + 2 + 1 + 2 + 1 + 2)))) 5 (some (b + (n + 1 + 2 + 1 + 1 + 2 + 1 + 2 + 1 + 2 + 1 + 2 + 1 + 2)))))))))) (n + 1 + 2 + 1 + 1 + 2 + 1 + 2 + 1 + 2 + 1 + 2 + 1 + 2 + 1 + 2) (.inr (3, [.int 0, .int 0, .int 0, .null, .null]))) (n + 1 + 2 + 1 + 1 + 2 + 1 + 2 + 1 + 2 + 1 + 2 + 1 + 2 + 1 + 2) (n + 1 + 2 + 1 + 1 + 2 + 1 + 2 + 1 + 2 + 1 + 2 + 1 + 2 + 1 + 2 + 1)) (n + 1 + 2) (.inl (g.2.2.2 2, 8, .inr (.inr (.inr (.inr (va_up (va_up (va_up (va_up (va_up (va_up (va_up (fun _ => none) 0 (some (b + (n + 1 + 2 + 1)))) 1 (some (b + (n + 1 + 2 + 1 + 1 + 2)))) 2 (some (b + (n + 1 + 2 + 1 + 1 + 2 + 1 + 2)))) 3 (some (b + (n + 1 + 2 + 1 + 1 + 2 + 1 + 2 + 1 + 2)))) 4 (some (b + (n + 1 + 2 + 1 + 1 + 2 + 1 + 2 + 1 + 2 + 1 + 2)))) 5 (some (b + (n + 1 + 2 + 1 + 1 + 2 + 1 + 2 + 1 + 2 + 1 + 2 + 1 + 2)))) 6 (some (b + (n + 1 + 2 + 1 + 1 + 2 + 1 + 2 + 1 + 2 + 1 + 2 + 1 + 2 + 1 + 2)))))))))) (n + 1 + 2 + 1 + 1 + 2 + 1 + 2 + 1 + 2 + 1 + 2 + 1 + 2 + 1 + 2 + 1 + 2) (.inr (3, [.int 0, .int 0, .int 0, .null, .null]))) (n + 1 + 2 + 1 + 1 + 2 + 1 + 2 + 1 + 2 + 1 + 2 + 1 + 2 + 1 + 2 + 1 + 2) (n + 1 + 2 + 1 + 1 + 2 + 1 + 2 + 1 + 2 + 1 + 2 + 1 + 2 + 1 + 2 + 1 + 2 + 1)) (n + 1 + 2) (.inl (g.2.2.2 2, 8, .inr (.inr (.inr (.inr (va_up (va_up (va_up (va_up (va_up (va_up (va_up (va_up (fun _ => none) 0 (some (b + (n + 1 + 2 + 1)))) 1 (some (b + (n + 1 + 2 + 1 + 1 + 2)))) 2 (some (b + (n + 1 + 2 + 1 + 1 + 2 + 1 + 2)))) 3 (some (b + (n + 1 + 2 + 1 + 1 + 2 + 1 + 2 + 1 + 2)))) 4 (some (b + (n + 1 + 2 + 1 + 1 + 2 + 1 + 2 + 1 + 2 + 1 + 2)))) 5 (some (b + (n + 1 + 2 + 1 + 1 + 2 + 1 + 2 + 1 + 2 + 1 + 2 + 1 + 2)))) 6 (some (b + (n + 1 + 2 + 1 + 1 + 2 + 1 + 2 + 1 + 2 + 1 + 2 + 1 + 2 + 1 + 2)))) 7 (some (b + (n + 1 + 2 + 1 + 1 + 2 + 1 + 2 + 1 + 2 + 1 + 2 + 1 + 2 + 1 + 2 + 1 + 2))))))))))
theorem bkU_ne {g : fG} {b : Nat} {cs : Nat → va_E} {j n i : Nat} (h1 : i ≠ j) (h2 : i < n) : bkU g b cs j n i = cs i := by
  unfold bkU
  exact ((cu_ne (by omega)).trans ((stU_ne (by omega) (by omega)).trans ((cu_ne (by omega)).trans ((cu_ne (by omega)).trans ((stU_ne (by omega) (by omega)).trans ((cu_ne (by omega)).trans ((cu_ne (by omega)).trans ((stU_ne (by omega) (by omega)).trans ((cu_ne (by omega)).trans ((cu_ne (by omega)).trans ((stU_ne (by omega) (by omega)).trans ((cu_ne (by omega)).trans ((cu_ne (by omega)).trans ((stU_ne (by omega) (by omega)).trans ((cu_ne (by omega)).trans ((cu_ne (by omega)).trans ((stU_ne (by omega) (by omega)).trans ((cu_ne (by omega)).trans ((cu_ne (by omega)).trans ((stU_ne (by omega) (by omega)).trans ((cu_ne (by omega)).trans ((cu_ne (by omega)).trans ((stU_ne (by omega) (by omega)).trans ((cu_ne (by omega)).trans ((cu_ne (by omega)).trans ((cu_ne (by omega)).trans ((cu_ne (by omega)).trans ((cu_ne (by omega)).trans ((stU_ne (by omega) (by omega)).trans ((cu_ne (by omega)).trans ((cu_ne (by omega)).trans (cu_ne (by omega)))))))))))))))))))))))))))))))))
theorem bkU_j {g : fG} {b : Nat} {cs : Nat → va_E} {j n : Nat} (hj : j < n) : bkU g b cs j n j = .inr (0, [.int 7, .int 0, .ref (b + n), .int 0, .ref (b + (n + 1 + 2))]) := by
  unfold bkU
  exact ((cu_ne (by omega)).trans ((stU_ne (by omega) (by omega)).trans ((cu_ne (by omega)).trans ((cu_ne (by omega)).trans ((stU_ne (by omega) (by omega)).trans ((cu_ne (by omega)).trans ((cu_ne (by omega)).trans ((stU_ne (by omega) (by omega)).trans ((cu_ne (by omega)).trans ((cu_ne (by omega)).trans ((stU_ne (by omega) (by omega)).trans ((cu_ne (by omega)).trans ((cu_ne (by omega)).trans ((stU_ne (by omega) (by omega)).trans ((cu_ne (by omega)).trans ((cu_ne (by omega)).trans ((stU_ne (by omega) (by omega)).trans ((cu_ne (by omega)).trans ((cu_ne (by omega)).trans ((stU_ne (by omega) (by omega)).trans ((cu_ne (by omega)).trans ((cu_ne (by omega)).trans ((stU_ne (by omega) (by omega)).trans ((cu_ne (by omega)).trans cu_eq))))))))))))))))))))))))
set_option maxHeartbeats 4000000 in
set_option maxRecDepth 100000 in
theorem c_X0_init {g : fG} {b : Nat} {cs : Nat → va_E} {j n : Nat} (hj : j < n) (h0 : cs j = .inr (0, [.int 0, .int 0, .null, .int 0, .null])) : cCt g Y_X0_init 28 206 b j n cs (n + 28) (bkU g b cs j n) := by
  refine cCt_of (by decide) (by decide) rfl ?_
  refine cn_aload 0 dX0_init_0 rfl ?_
  refine cn_obj dX0_init_1 ob_X0 ob_i ob_c (by decide) (Nat.le_of_ble_eq_true rfl) ?_
  refine cn_aload 0 dX0_init_4 rfl ?_
  refine cn_bipush 7 dX0_init_5 (by decide) ?_
  refine cn_putI (fs' := [.int 7, .int 0, .null, .int 0, .null]) dX0_init_7 fl_X0_9 fp_X0_0.1 (Or.inl fp_X0_0.2) (by omega) h0 (Nat.le_of_ble_eq_true rfl) rfl ?_
  refine cn_aload 0 dX0_init_10 rfl ?_
  refine cn_iconst 0 dX0_init_11 (by decide) ?_
  refine cn_putI (fs' := [.int 7, .int 0, .null, .int 0, .null]) dX0_init_12 fl_X0_15 fp_X0_1.1 (Or.inl fp_X0_1.2) (by omega) cu_eq (Nat.le_of_ble_eq_true rfl) rfl ?_
  refine cn_aload 0 dX0_init_15 rfl ?_
  refine cn_new dX0_init_16 nk_X0_18 (by decide) (by decide) ?_
  refine cn_dup dX0_init_19 ?_
  refine cn_callN dX0_init_20 il_X0_20 (c_X3_init (by omega) cu_eq) ⟨by decide, by decide⟩ ⟨(by decide), (by decide)⟩ (Nat.le_of_ble_eq_true rfl) ?_
  refine cn_putR (fs' := [.int 7, .int 0, .ref (b + n), .int 0, .null]) dX0_init_23 fl_X0_21 rk_X0_2 rfl (by omega) ((stU_ne (by omega) (by omega)).trans ((cu_ne (by omega)).trans cu_eq)) (Nat.le_of_ble_eq_true rfl) rfl ?_
  refine cn_aload 0 dX0_init_26 rfl ?_
  refine cn_iconst 0 dX0_init_27 (by decide) ?_
  refine cn_putI (fs' := [.int 7, .int 0, .ref (b + n), .int 0, .null]) dX0_init_28 fl_X0_25 fp_X0_3.1 (Or.inl fp_X0_3.2) (by omega) cu_eq (Nat.le_of_ble_eq_true rfl) rfl ?_
  refine cn_aload 0 dX0_init_31 rfl ?_
  refine cn_bipush 8 dX0_init_32 (by decide) ?_
  refine cn_newq (N := 8) (t := 2) dX0_init_34 ak_X0_18 (ao_2 g) (by decide) (by decide) (by decide) (by decide) (by decide) ?_
  refine cn_putR (fs' := [.int 7, .int 0, .ref (b + n), .int 0, .ref (b + (n + 1 + 2))]) dX0_init_37 fl_X0_28 rk_X0_4 rfl (by omega) ((cu_ne (by omega)).trans cu_eq) (Nat.le_of_ble_eq_true rfl) rfl ?_
  refine cn_iconst 0 dX0_init_40 (by decide) ?_
  refine cn_istore (ls' := [(1, .int 0), (0, .ref (b + j))]) dX0_init_41 (by decide) rfl ?_
  refine cn_iload 0 dX0_init_42 rfl ?_
  refine cn_bipush 8 dX0_init_43 (by decide) ?_
  refine cn_ge_f 67 dX0_init_45 (by decide) (by decide) ?_
  refine cn_aload 1 dX0_init_48 rfl ?_
  refine cn_getr (fs := [.int 7, .int 0, .ref (b + n), .int 0, .ref (b + (n + 1 + 2))]) dX0_init_49 fl_X0_28 (by omega) cu_eq rfl ?_
  refine cn_iload 0 dX0_init_52 rfl ?_
  refine cn_new dX0_init_53 nk_X0_18 (by decide) (by decide) ?_
  refine cn_dup dX0_init_56 ?_
  refine cn_callN dX0_init_57 il_X0_20 (c_X3_init (by omega) cu_eq) ⟨by decide, by decide⟩ ⟨(by decide), (by decide)⟩ (Nat.le_of_ble_eq_true rfl) ?_
  refine cn_aast (k := 0) (t := 2) (f' := (va_up (fun _ => none) 0 (some (b + (n + 1 + 2 + 1))))) dX0_init_60 (by omega) ((stU_ne (by omega) (by omega)).trans ((cu_ne (by omega)).trans ((cu_ne (by omega)).trans cu_eq))) (by omega) (stU_j (by omega)) rfl rfl (show ¬ _ by decide) (by decide) rfl ?_
  refine cn_iinc (q := 0) (v := 1) (ls' := [(1, .int 1), (0, .ref (b + j))]) dX0_init_61 rfl (by decide) (by decide) rfl ?_
  refine cn_goto 42 dX0_init_64 (by decide) ?_
  refine cn_iload 0 dX0_init_42 rfl ?_
  refine cn_bipush 8 dX0_init_43 (by decide) ?_
  refine cn_ge_f 67 dX0_init_45 (by decide) (by decide) ?_
  refine cn_aload 1 dX0_init_48 rfl ?_
  refine cn_getr (fs := [.int 7, .int 0, .ref (b + n), .int 0, .ref (b + (n + 1 + 2))]) dX0_init_49 fl_X0_28 (by omega) ((cu_ne (by omega)).trans ((stU_ne (by omega) (by omega)).trans ((cu_ne (by omega)).trans cu_eq))) rfl ?_
  refine cn_iload 0 dX0_init_52 rfl ?_
  refine cn_new dX0_init_53 nk_X0_18 (by decide) (by decide) ?_
  refine cn_dup dX0_init_56 ?_
  refine cn_callN dX0_init_57 il_X0_20 (c_X3_init (by omega) cu_eq) ⟨by decide, by decide⟩ ⟨(by decide), (by decide)⟩ (Nat.le_of_ble_eq_true rfl) ?_
  refine cn_aast (k := 1) (t := 2) (f' := (va_up (va_up (fun _ => none) 0 (some (b + (n + 1 + 2 + 1)))) 1 (some (b + (n + 1 + 2 + 1 + 1 + 2))))) dX0_init_60 (by omega) ((stU_ne (by omega) (by omega)).trans ((cu_ne (by omega)).trans cu_eq)) (by omega) (stU_j (by omega)) rfl rfl (show ¬ _ by decide) (by decide) rfl ?_
  refine cn_iinc (q := 0) (v := 2) (ls' := [(1, .int 2), (0, .ref (b + j))]) dX0_init_61 rfl (by decide) (by decide) rfl ?_
  refine cn_goto 42 dX0_init_64 (by decide) ?_
  refine cn_iload 0 dX0_init_42 rfl ?_
  refine cn_bipush 8 dX0_init_43 (by decide) ?_
  refine cn_ge_f 67 dX0_init_45 (by decide) (by decide) ?_
  refine cn_aload 1 dX0_init_48 rfl ?_
  refine cn_getr (fs := [.int 7, .int 0, .ref (b + n), .int 0, .ref (b + (n + 1 + 2))]) dX0_init_49 fl_X0_28 (by omega) ((cu_ne (by omega)).trans ((stU_ne (by omega) (by omega)).trans ((cu_ne (by omega)).trans ((cu_ne (by omega)).trans ((stU_ne (by omega) (by omega)).trans ((cu_ne (by omega)).trans cu_eq)))))) rfl ?_
  refine cn_iload 0 dX0_init_52 rfl ?_
  refine cn_new dX0_init_53 nk_X0_18 (by decide) (by decide) ?_
  refine cn_dup dX0_init_56 ?_
  refine cn_callN dX0_init_57 il_X0_20 (c_X3_init (by omega) cu_eq) ⟨by decide, by decide⟩ ⟨(by decide), (by decide)⟩ (Nat.le_of_ble_eq_true rfl) ?_
  refine cn_aast (k := 2) (t := 2) (f' := (va_up (va_up (va_up (fun _ => none) 0 (some (b + (n + 1 + 2 + 1)))) 1 (some (b + (n + 1 + 2 + 1 + 1 + 2)))) 2 (some (b + (n + 1 + 2 + 1 + 1 + 2 + 1 + 2))))) dX0_init_60 (by omega) ((stU_ne (by omega) (by omega)).trans ((cu_ne (by omega)).trans cu_eq)) (by omega) (stU_j (by omega)) rfl rfl (show ¬ _ by decide) (by decide) rfl ?_
  refine cn_iinc (q := 0) (v := 3) (ls' := [(1, .int 3), (0, .ref (b + j))]) dX0_init_61 rfl (by decide) (by decide) rfl ?_
  refine cn_goto 42 dX0_init_64 (by decide) ?_
  refine cn_iload 0 dX0_init_42 rfl ?_
  refine cn_bipush 8 dX0_init_43 (by decide) ?_
  refine cn_ge_f 67 dX0_init_45 (by decide) (by decide) ?_
  refine cn_aload 1 dX0_init_48 rfl ?_
  refine cn_getr (fs := [.int 7, .int 0, .ref (b + n), .int 0, .ref (b + (n + 1 + 2))]) dX0_init_49 fl_X0_28 (by omega) ((cu_ne (by omega)).trans ((stU_ne (by omega) (by omega)).trans ((cu_ne (by omega)).trans ((cu_ne (by omega)).trans ((stU_ne (by omega) (by omega)).trans ((cu_ne (by omega)).trans ((cu_ne (by omega)).trans ((stU_ne (by omega) (by omega)).trans ((cu_ne (by omega)).trans cu_eq))))))))) rfl ?_
  refine cn_iload 0 dX0_init_52 rfl ?_
  refine cn_new dX0_init_53 nk_X0_18 (by decide) (by decide) ?_
  refine cn_dup dX0_init_56 ?_
  refine cn_callN dX0_init_57 il_X0_20 (c_X3_init (by omega) cu_eq) ⟨by decide, by decide⟩ ⟨(by decide), (by decide)⟩ (Nat.le_of_ble_eq_true rfl) ?_
  refine cn_aast (k := 3) (t := 2) (f' := (va_up (va_up (va_up (va_up (fun _ => none) 0 (some (b + (n + 1 + 2 + 1)))) 1 (some (b + (n + 1 + 2 + 1 + 1 + 2)))) 2 (some (b + (n + 1 + 2 + 1 + 1 + 2 + 1 + 2)))) 3 (some (b + (n + 1 + 2 + 1 + 1 + 2 + 1 + 2 + 1 + 2))))) dX0_init_60 (by omega) ((stU_ne (by omega) (by omega)).trans ((cu_ne (by omega)).trans cu_eq)) (by omega) (stU_j (by omega)) rfl rfl (show ¬ _ by decide) (by decide) rfl ?_
  refine cn_iinc (q := 0) (v := 4) (ls' := [(1, .int 4), (0, .ref (b + j))]) dX0_init_61 rfl (by decide) (by decide) rfl ?_
  refine cn_goto 42 dX0_init_64 (by decide) ?_
  refine cn_iload 0 dX0_init_42 rfl ?_
  refine cn_bipush 8 dX0_init_43 (by decide) ?_
  refine cn_ge_f 67 dX0_init_45 (by decide) (by decide) ?_
  refine cn_aload 1 dX0_init_48 rfl ?_
  refine cn_getr (fs := [.int 7, .int 0, .ref (b + n), .int 0, .ref (b + (n + 1 + 2))]) dX0_init_49 fl_X0_28 (by omega) ((cu_ne (by omega)).trans ((stU_ne (by omega) (by omega)).trans ((cu_ne (by omega)).trans ((cu_ne (by omega)).trans ((stU_ne (by omega) (by omega)).trans ((cu_ne (by omega)).trans ((cu_ne (by omega)).trans ((stU_ne (by omega) (by omega)).trans ((cu_ne (by omega)).trans ((cu_ne (by omega)).trans ((stU_ne (by omega) (by omega)).trans ((cu_ne (by omega)).trans cu_eq)))))))))))) rfl ?_
  refine cn_iload 0 dX0_init_52 rfl ?_
  refine cn_new dX0_init_53 nk_X0_18 (by decide) (by decide) ?_
  refine cn_dup dX0_init_56 ?_
  refine cn_callN dX0_init_57 il_X0_20 (c_X3_init (by omega) cu_eq) ⟨by decide, by decide⟩ ⟨(by decide), (by decide)⟩ (Nat.le_of_ble_eq_true rfl) ?_
  refine cn_aast (k := 4) (t := 2) (f' := (va_up (va_up (va_up (va_up (va_up (fun _ => none) 0 (some (b + (n + 1 + 2 + 1)))) 1 (some (b + (n + 1 + 2 + 1 + 1 + 2)))) 2 (some (b + (n + 1 + 2 + 1 + 1 + 2 + 1 + 2)))) 3 (some (b + (n + 1 + 2 + 1 + 1 + 2 + 1 + 2 + 1 + 2)))) 4 (some (b + (n + 1 + 2 + 1 + 1 + 2 + 1 + 2 + 1 + 2 + 1 + 2))))) dX0_init_60 (by omega) ((stU_ne (by omega) (by omega)).trans ((cu_ne (by omega)).trans cu_eq)) (by omega) (stU_j (by omega)) rfl rfl (show ¬ _ by decide) (by decide) rfl ?_
  refine cn_iinc (q := 0) (v := 5) (ls' := [(1, .int 5), (0, .ref (b + j))]) dX0_init_61 rfl (by decide) (by decide) rfl ?_
  refine cn_goto 42 dX0_init_64 (by decide) ?_
  refine cn_iload 0 dX0_init_42 rfl ?_
  refine cn_bipush 8 dX0_init_43 (by decide) ?_
  refine cn_ge_f 67 dX0_init_45 (by decide) (by decide) ?_
  refine cn_aload 1 dX0_init_48 rfl ?_
  refine cn_getr (fs := [.int 7, .int 0, .ref (b + n), .int 0, .ref (b + (n + 1 + 2))]) dX0_init_49 fl_X0_28 (by omega) ((cu_ne (by omega)).trans ((stU_ne (by omega) (by omega)).trans ((cu_ne (by omega)).trans ((cu_ne (by omega)).trans ((stU_ne (by omega) (by omega)).trans ((cu_ne (by omega)).trans ((cu_ne (by omega)).trans ((stU_ne (by omega) (by omega)).trans ((cu_ne (by omega)).trans ((cu_ne (by omega)).trans ((stU_ne (by omega) (by omega)).trans ((cu_ne (by omega)).trans ((cu_ne (by omega)).trans ((stU_ne (by omega) (by omega)).trans ((cu_ne (by omega)).trans cu_eq))))))))))))))) rfl ?_
  refine cn_iload 0 dX0_init_52 rfl ?_
  refine cn_new dX0_init_53 nk_X0_18 (by decide) (by decide) ?_
  refine cn_dup dX0_init_56 ?_
  refine cn_callN dX0_init_57 il_X0_20 (c_X3_init (by omega) cu_eq) ⟨by decide, by decide⟩ ⟨(by decide), (by decide)⟩ (Nat.le_of_ble_eq_true rfl) ?_
  refine cn_aast (k := 5) (t := 2) (f' := (va_up (va_up (va_up (va_up (va_up (va_up (fun _ => none) 0 (some (b + (n + 1 + 2 + 1)))) 1 (some (b + (n + 1 + 2 + 1 + 1 + 2)))) 2 (some (b + (n + 1 + 2 + 1 + 1 + 2 + 1 + 2)))) 3 (some (b + (n + 1 + 2 + 1 + 1 + 2 + 1 + 2 + 1 + 2)))) 4 (some (b + (n + 1 + 2 + 1 + 1 + 2 + 1 + 2 + 1 + 2 + 1 + 2)))) 5 (some (b + (n + 1 + 2 + 1 + 1 + 2 + 1 + 2 + 1 + 2 + 1 + 2 + 1 + 2))))) dX0_init_60 (by omega) ((stU_ne (by omega) (by omega)).trans ((cu_ne (by omega)).trans cu_eq)) (by omega) (stU_j (by omega)) rfl rfl (show ¬ _ by decide) (by decide) rfl ?_
  refine cn_iinc (q := 0) (v := 6) (ls' := [(1, .int 6), (0, .ref (b + j))]) dX0_init_61 rfl (by decide) (by decide) rfl ?_
  refine cn_goto 42 dX0_init_64 (by decide) ?_
  refine cn_iload 0 dX0_init_42 rfl ?_
  refine cn_bipush 8 dX0_init_43 (by decide) ?_
  refine cn_ge_f 67 dX0_init_45 (by decide) (by decide) ?_
  refine cn_aload 1 dX0_init_48 rfl ?_
  refine cn_getr (fs := [.int 7, .int 0, .ref (b + n), .int 0, .ref (b + (n + 1 + 2))]) dX0_init_49 fl_X0_28 (by omega) ((cu_ne (by omega)).trans ((stU_ne (by omega) (by omega)).trans ((cu_ne (by omega)).trans ((cu_ne (by omega)).trans ((stU_ne (by omega) (by omega)).trans ((cu_ne (by omega)).trans ((cu_ne (by omega)).trans ((stU_ne (by omega) (by omega)).trans ((cu_ne (by omega)).trans ((cu_ne (by omega)).trans ((stU_ne (by omega) (by omega)).trans ((cu_ne (by omega)).trans ((cu_ne (by omega)).trans ((stU_ne (by omega) (by omega)).trans ((cu_ne (by omega)).trans ((cu_ne (by omega)).trans ((stU_ne (by omega) (by omega)).trans ((cu_ne (by omega)).trans cu_eq)))))))))))))))))) rfl ?_
  refine cn_iload 0 dX0_init_52 rfl ?_
  refine cn_new dX0_init_53 nk_X0_18 (by decide) (by decide) ?_
  refine cn_dup dX0_init_56 ?_
  refine cn_callN dX0_init_57 il_X0_20 (c_X3_init (by omega) cu_eq) ⟨by decide, by decide⟩ ⟨(by decide), (by decide)⟩ (Nat.le_of_ble_eq_true rfl) ?_
  refine cn_aast (k := 6) (t := 2) (f' := (va_up (va_up (va_up (va_up (va_up (va_up (va_up (fun _ => none) 0 (some (b + (n + 1 + 2 + 1)))) 1 (some (b + (n + 1 + 2 + 1 + 1 + 2)))) 2 (some (b + (n + 1 + 2 + 1 + 1 + 2 + 1 + 2)))) 3 (some (b + (n + 1 + 2 + 1 + 1 + 2 + 1 + 2 + 1 + 2)))) 4 (some (b + (n + 1 + 2 + 1 + 1 + 2 + 1 + 2 + 1 + 2 + 1 + 2)))) 5 (some (b + (n + 1 + 2 + 1 + 1 + 2 + 1 + 2 + 1 + 2 + 1 + 2 + 1 + 2)))) 6 (some (b + (n + 1 + 2 + 1 + 1 + 2 + 1 + 2 + 1 + 2 + 1 + 2 + 1 + 2 + 1 + 2))))) dX0_init_60 (by omega) ((stU_ne (by omega) (by omega)).trans ((cu_ne (by omega)).trans cu_eq)) (by omega) (stU_j (by omega)) rfl rfl (show ¬ _ by decide) (by decide) rfl ?_
  refine cn_iinc (q := 0) (v := 7) (ls' := [(1, .int 7), (0, .ref (b + j))]) dX0_init_61 rfl (by decide) (by decide) rfl ?_
  refine cn_goto 42 dX0_init_64 (by decide) ?_
  refine cn_iload 0 dX0_init_42 rfl ?_
  refine cn_bipush 8 dX0_init_43 (by decide) ?_
  refine cn_ge_f 67 dX0_init_45 (by decide) (by decide) ?_
  refine cn_aload 1 dX0_init_48 rfl ?_
  refine cn_getr (fs := [.int 7, .int 0, .ref (b + n), .int 0, .ref (b + (n + 1 + 2))]) dX0_init_49 fl_X0_28 (by omega) ((cu_ne (by omega)).trans ((stU_ne (by omega) (by omega)).trans ((cu_ne (by omega)).trans ((cu_ne (by omega)).trans ((stU_ne (by omega) (by omega)).trans ((cu_ne (by omega)).trans ((cu_ne (by omega)).trans ((stU_ne (by omega) (by omega)).trans ((cu_ne (by omega)).trans ((cu_ne (by omega)).trans ((stU_ne (by omega) (by omega)).trans ((cu_ne (by omega)).trans ((cu_ne (by omega)).trans ((stU_ne (by omega) (by omega)).trans ((cu_ne (by omega)).trans ((cu_ne (by omega)).trans ((stU_ne (by omega) (by omega)).trans ((cu_ne (by omega)).trans ((cu_ne (by omega)).trans ((stU_ne (by omega) (by omega)).trans ((cu_ne (by omega)).trans cu_eq))))))))))))))))))))) rfl ?_
  refine cn_iload 0 dX0_init_52 rfl ?_
  refine cn_new dX0_init_53 nk_X0_18 (by decide) (by decide) ?_
  refine cn_dup dX0_init_56 ?_
  refine cn_callN dX0_init_57 il_X0_20 (c_X3_init (by omega) cu_eq) ⟨by decide, by decide⟩ ⟨(by decide), (by decide)⟩ (Nat.le_of_ble_eq_true rfl) ?_
  refine cn_aast (k := 7) (t := 2) (f' := (va_up (va_up (va_up (va_up (va_up (va_up (va_up (va_up (fun _ => none) 0 (some (b + (n + 1 + 2 + 1)))) 1 (some (b + (n + 1 + 2 + 1 + 1 + 2)))) 2 (some (b + (n + 1 + 2 + 1 + 1 + 2 + 1 + 2)))) 3 (some (b + (n + 1 + 2 + 1 + 1 + 2 + 1 + 2 + 1 + 2)))) 4 (some (b + (n + 1 + 2 + 1 + 1 + 2 + 1 + 2 + 1 + 2 + 1 + 2)))) 5 (some (b + (n + 1 + 2 + 1 + 1 + 2 + 1 + 2 + 1 + 2 + 1 + 2 + 1 + 2)))) 6 (some (b + (n + 1 + 2 + 1 + 1 + 2 + 1 + 2 + 1 + 2 + 1 + 2 + 1 + 2 + 1 + 2)))) 7 (some (b + (n + 1 + 2 + 1 + 1 + 2 + 1 + 2 + 1 + 2 + 1 + 2 + 1 + 2 + 1 + 2 + 1 + 2))))) dX0_init_60 (by omega) ((stU_ne (by omega) (by omega)).trans ((cu_ne (by omega)).trans cu_eq)) (by omega) (stU_j (by omega)) rfl rfl (show ¬ _ by decide) (by decide) rfl ?_
  refine cn_iinc (q := 0) (v := 8) (ls' := [(1, .int 8), (0, .ref (b + j))]) dX0_init_61 rfl (by decide) (by decide) rfl ?_
  refine cn_goto 42 dX0_init_64 (by decide) ?_
  refine cn_iload 0 dX0_init_42 rfl ?_
  refine cn_bipush 8 dX0_init_43 (by decide) ?_
  refine cn_ge_t 67 dX0_init_45 (by decide) (by decide) ?_
  exact cn_ret dX0_init_67 rfl
