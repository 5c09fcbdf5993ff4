/-! ===== constructors: rows of rows, grids ===== -/
def mnU (g : fG) (b : Nat) (cs : Nat → va_E) (_ n : Nat) : Nat → va_E := fun i => if i = n then .inl (g.2.2.2 4, 11, .inr (.inr (.inr (.inr (fun j => some (b + (n + 1 + j))))))) else if n < i ∧ i < n + 12 then .inl (g.2.2.2 0, 12, .inl (fun _ => 0)) else cs i
theorem mnU_ne {g : fG} {b : Nat} {cs : Nat → va_E} {j n i : Nat} (_ : i ≠ j) (h2 : i < n) : mnU g b cs j n i = cs i := by
  unfold mnU
  rw [if_neg (by omega), if_neg (by omega)]
theorem cn_mna {g : fG} {Y : fY} {b : Nat} {R : Room} {Zf : List Frame → Array Value → State → State → Prop} {Ex : Program → State → MethodId → Array Value → Method → Code → Prop} {pc : Nat} {ls : List (Nat × Value)} {st : List Value} {kc ks n : Nat} {cs : Nat → va_E} (hd : decode Y.2.1 pc = .ok (.multianewarray 9 2, 4)) (hY : Y.1.cls = RX1) (hcells : kc + 12 ≤ R.cells) (hslots : ks + 143 ≤ R.slots) (kk : cAt g Y b R Zf Ex (pc + 4) ls (.ref (b + n) :: st) (kc + 12) (ks + 143) (n + 12) (mnU g b cs n n)) : cAt g Y b R Zf Ex pc ls (.int 12 :: .int 11 :: st) kc ks n cs := by
  intro p e s m args below meth c H locs ar hE hX hz hP hS hl
  have hts := hE.2.2.2.2.2.1
  have hF := hE.2.2.2.2.2.2.2.2.1
  have hlk : (Cond.classLink Y.1.cls 9 ("[" ++ (FieldType.array .int).toString)).before args s = true := by rw [hY]; exact hts _ mk_X1_9
  refine ko_mna (N := 11) (K := 12) hE.1 hE.2.1 hE.2.2.2.2.1 hlk hF.2.2.2.1 (hts _ ac_i) (by decide) (by decide) (by decide) (by decide) (by decide) (by decide) (by decide) hcells hslots hd (fun H1 cA comp fA fC z1 e1 e2 o1 => ?_)
  have h4 : cA = g.2.2.2 4 := Option.some.inj (fA.symm.trans (hF.1.2 4 (g.2.2.2 4, .array .int) rfl).2)
  have h0 : comp = g.2.2.2 0 := Option.some.inj (fC.symm.trans (hF.1.2 0 (g.2.2.2 0, .int) rfl).2)
  subst h4
  subst h0
  rw [hz] at z1 e1 e2 o1
  have hst : (Value.ref H.size :: st) = (Value.ref (b + n) :: st) := by rw [hz]
  rw [hst]
  refine kk p e s m args below meth c H1 locs ar hE hX (by omega) (fun k q hk => ?_) (cS_grow hz hS (by omega) o1) hl
  obtain ⟨hk1, rfl⟩ := kW_in hk
  by_cases e3 : k = n
  · have em : mnU g b cs n n k = .inl (g.2.2.2 4, 11, .inr (.inr (.inr (.inr (fun j => some (b + (n + 1 + j))))))) := by unfold mnU; rw [if_pos e3]
    rw [em, e3]
    show H1[b + n]? = some (vp_cell _ _)
    rw [e1, vp_cell_q]
    congr 2
    funext j
    rw [show b + n + 1 + j = b + (n + 1 + j) by omega]
  · by_cases e4 : n < k
    · have em : mnU g b cs n n k = .inl (g.2.2.2 0, 12, .inl (fun _ => 0)) := by unfold mnU; rw [if_neg e3, if_pos ⟨e4, hk1⟩]
      rw [em]
      show H1[b + k]? = some (vp_cell _ _)
      have := e2 (k - (n + 1)) (by omega)
      rw [show b + n + 1 + (k - (n + 1)) = b + k by omega] at this
      rw [this, vp_cell_i]
    · rw [mnU_ne e3 (by omega)]
      exact (hP k _ (kW_at (by omega))).kept (o1 (b + k) (by omega))
def grU (g : fG) (b : Nat) (cs : Nat → va_E) (j n : Nat) : Nat → va_E := (cu (cu (cu (cu (cu (cu (cu (mnU g b cs n n) j (.inr (1, [.ref (b + n), .null, .null, .int 0]))) (n + 12) (.inl (g.2.2.2 0, 11, .inl (fun _ => 0)))) j (.inr (1, [.ref (b + n), .ref (b + (n + 12)), .null, .int 0]))) (n + 12 + 1) (.inl (g.2.2.2 0, 97, .inl (fun _ => 0)))) j (.inr (1, [.ref (b + n), .ref (b + (n + 12)), .ref (b + (n + 12 + 1)), .int 0]))) j (.inr (1, [.ref (b + n), .ref (b + (n + 12)), .ref (b + (n + 12 + 1)), .int 2]))) (n + 12 + 1) (.inl (g.2.2.2 0, 97, .inl (upd (fun _ => 0) 1 1))))
theorem grU_ne {g : fG} {b : Nat} {cs : Nat → va_E} {j n i : Nat} (h1 : i ≠ j) (h2 : i < n) : grU g b cs j n i = cs i := by
  unfold grU
  exact ((cu_ne (by omega)).trans ((cu_ne (by omega)).trans ((cu_ne (by omega)).trans ((cu_ne (by omega)).trans ((cu_ne (by omega)).trans ((cu_ne (by omega)).trans ((cu_ne (by omega)).trans (mnU_ne (by omega) (by omega)))))))))
theorem grU_j {g : fG} {b : Nat} {cs : Nat → va_E} {j n : Nat} (hj : j < n) : grU g b cs j n j = .inr (1, [.ref (b + n), .ref (b + (n + 12)), .ref (b + (n + 12 + 1)), .int 2]) := by
  unfold grU
  exact ((cu_ne (by omega)).trans cu_eq)
set_option maxHeartbeats 4000000 in
set_option maxRecDepth 100000 in
theorem c_X1_init {g : fG} {b : Nat} {cs : Nat → va_E} {j n : Nat} (hj : j < n) (h0 : cs j = .inr (1, [.null, .null, .null, .int 0])) : cCt g Y_X1_init 14 251 b j n cs (n + 14) (grU g b cs j n) := by
  refine cCt_of (by decide) (by decide) rfl ?_
  refine cn_aload 0 dX1_init_0 rfl ?_
  refine cn_obj dX1_init_1 ob_X1 ob_i ob_c (by decide) (Nat.le_of_ble_eq_true rfl) ?_
  refine cn_aload 0 dX1_init_4 rfl ?_
  refine cn_bipush 11 dX1_init_5 (by decide) ?_
  refine cn_bipush 12 dX1_init_7 (by decide) ?_
  refine cn_mna dX1_init_9 rfl (by decide) (by decide) ?_
  refine cn_putR (fs' := [.ref (b + n), .null, .null, .int 0]) dX1_init_13 fl_X1_11 rk_X1_0 rfl (by omega) ((mnU_ne (by omega) (by omega)).trans h0) (Nat.le_of_ble_eq_true rfl) rfl ?_
  refine cn_aload 0 dX1_init_16 rfl ?_
  refine cn_bipush 11 dX1_init_17 (by decide) ?_
  refine cn_newi (N := 11) dX1_init_19 ac_i (by decide) (by decide) (by decide) (by decide) (by decide) ?_
  refine cn_putR (fs' := [.ref (b + n), .ref (b + (n + 12)), .null, .int 0]) dX1_init_21 fl_X1_16 rk_X1_1 rfl (by omega) ((cu_ne (by omega)).trans cu_eq) (Nat.le_of_ble_eq_true rfl) rfl ?_
  refine cn_aload 0 dX1_init_24 rfl ?_
  refine cn_bipush 97 dX1_init_25 (by decide) ?_
  refine cn_newi (N := 97) dX1_init_27 ac_i (by decide) (by decide) (by decide) (by decide) (by decide) ?_
  refine cn_putR (fs' := [.ref (b + n), .ref (b + (n + 12)), .ref (b + (n + 12 + 1)), .int 0]) dX1_init_29 fl_X1_20 rk_X1_2 rfl (by omega) ((cu_ne (by omega)).trans cu_eq) (Nat.le_of_ble_eq_true rfl) rfl ?_
  refine cn_aload 0 dX1_init_32 rfl ?_
  refine cn_iconst 2 dX1_init_33 (by decide) ?_
  refine cn_putI (fs' := [.ref (b + n), .ref (b + (n + 12)), .ref (b + (n + 12 + 1)), .int 2]) dX1_init_34 fl_X1_23 fp_X1_3.1 (Or.inl fp_X1_3.2) (by omega) cu_eq (Nat.le_of_ble_eq_true rfl) rfl ?_
  refine cn_aload 0 dX1_init_37 rfl ?_
  refine cn_getr (fs := [.ref (b + n), .ref (b + (n + 12)), .ref (b + (n + 12 + 1)), .int 2]) dX1_init_38 fl_X1_20 (by omega) cu_eq rfl ?_
  refine cn_iconst 1 dX1_init_41 (by decide) ?_
  refine cn_iconst 1 dX1_init_42 (by decide) ?_
  refine cn_iast (k := 1) (f' := (upd (fun _ => 0) 1 1)) dX1_init_43 (by omega) ((cu_ne (by omega)).trans ((cu_ne (by omega)).trans cu_eq)) (show ¬ _ by decide) (by decide) rfl ?_
  exact cn_ret dX1_init_44 rfl
