/-! ===== Setting ===== -/
/-- the place of THE LINE by kind, row, column -/
def plc (w : Nat) (kind : Int) (i j : Nat) : Nat := if kind = 1 then i + j else if kind = 2 ∨ kind = 4 then w - 1 + (if i < j then j - i else i - j) else if kind = 3 then w - 1 + (if i < j then i + w - j else i - j) else w - 1 + i - j
def ent (p : Int) (w : Nat) (kind : Int) (L : Nat → Int) (i j : Nat) : Int := if kind = 4 ∧ i < j ∧ L (plc w kind i j) ≠ 0 then p - L (plc w kind i j) else L (plc w kind i j)
theorem plc_1 (w i j : Nat) : plc w 1 i j = i + j := by unfold plc; rw [if_pos rfl]
theorem plc_24 {kd : Int} (h : kd = 2 ∨ kd = 4) (w i j : Nat) : plc w kd i j = w - 1 + (if i < j then j - i else i - j) := by unfold plc; rw [if_neg (by omega), if_pos h]
theorem plc_3 (w i j : Nat) : plc w 3 i j = w - 1 + (if i < j then i + w - j else i - j) := by unfold plc; rw [if_neg (by decide), if_neg (by decide), if_pos rfl]
theorem plc_0 (w i j : Nat) : plc w 0 i j = w - 1 + i - j := by unfold plc; rw [if_neg (by decide), if_neg (by decide), if_neg (by decide)]
theorem plc_lt {w : Nat} {kind : Int} {i j : Nat} (hi : i < w) (hj : j < w) : plc w kind i j < 2 * w - 1 := by
  unfold plc
  repeat' split
  all_goals omega
theorem ent_rng {p : Int} {w : Nat} {kind : Int} {L : Nat → Int} {i j : Nat} (hp : 0 < p) (hL : ∀ q, q < 2 * w - 1 → 0 ≤ L q ∧ L q < p) (hi : i < w) (hj : j < w) : 0 ≤ ent p w kind L i j ∧ ent p w kind L i j < p := by
  have h := hL _ (plc_lt (kind := kind) hi hj)
  unfold ent
  split
  · rename_i q
    have := q.2.2
    omega
  · exact h
theorem ent_congr {p : Int} {w : Nat} {kind : Int} {L L' : Nat → Int} {i j : Nat} (hL : ∀ q, q < 2 * w - 1 → L q = L' q) (hi : i < w) (hj : j < w) : ent p w kind L i j = ent p w kind L' i j := by
  unfold ent
  rw [hL _ (plc_lt hi hj)]
set_option maxHeartbeats 4000000 in
set_option maxRecDepth 100000 in
theorem c_rowLength {g : fG} {M : fM} {i w : Nat} (hw : M 2 i 0 = (w : Int)) (hw1 : 1 ≤ w ∧ w ≤ 6) :
    fCi g Y_X3_rowLength [vr 2 i] M (fun z M' => z = ((2 * w - 1 : Nat) : Int) ∧ M' = M) := by
  refine fCi_of _ [some (vr 2 i)] (by decide) (Nat.le_of_ble_eq_true rfl) rfl (fun h => h) ?_
  refine st_iconst dX3_rowLength_0 (by decide) ?_
  refine st_aload_n dX3_rowLength_1 rfl ?_
  refine st_get dX3_rowLength_2 fl_X3_9 rfl rfl rfl ?_
  refine fAt_v (x' := (w : Int)) hw ?_
  refine st_imul dX3_rowLength_5 (by omega) ?_
  refine st_iconst dX3_rowLength_6 (by decide) ?_
  refine st_isub dX3_rowLength_7 (by omega) ?_
  refine st_ireturn dX3_rowLength_8 rfl ⟨_, rfl, ⟨by omega, rfl⟩⟩
set_option maxHeartbeats 4000000 in
set_option maxRecDepth 100000 in
theorem c_placeAt {g : fG} {M : fM} {i w a b : Nat} {kd : Int} (hw : M 2 i 0 = (w : Int)) (hw1 : 1 ≤ w ∧ w ≤ 6) (ha : a < w) (hb : b < w) (hkd : kd = 0 ∨ kd = 1 ∨ kd = 2 ∨ kd = 3 ∨ kd = 4) :
    fCi g Y_X3_placeAt [vr 2 i, vi kd, vi (a : Int), vi (b : Int)] M (fun z M' => z = ((plc w kd a b : Nat) : Int) ∧ M' = M) := by
  refine fCi_of _ [some (vr 2 i), some (vi kd), some (vi (a : Int)), some (vi (b : Int)), none] (by decide) (Nat.le_of_ble_eq_true rfl) rfl (fun h => h) ?_
  refine st_aload_n dX3_placeAt_0 rfl ?_
  refine st_get dX3_placeAt_1 fl_X3_9 rfl rfl rfl ?_
  refine fAt_v (x' := (w : Int)) hw ?_
  refine st_iconst dX3_placeAt_4 (by decide) ?_
  refine st_isub dX3_placeAt_5 (by omega) ?_
  refine st_istore (ls' := [some (vr 2 i), some (vi kd), some (vi (a : Int)), some (vi (b : Int)), some (vi ((w : Int) - 1))]) dX3_placeAt_6 (by decide) rfl rfl ?_
  refine st_iload_n dX3_placeAt_8 rfl ?_
  rcases hkd with rfl | rfl | rfl | rfl | rfl
  · skip
    refine st_tableOut 87 dX3_placeAt_9 (by decide) (by decide) ?_
    refine st_iload dX3_placeAt_87 rfl ?_
    refine st_iload_n dX3_placeAt_89 rfl ?_
    refine st_iadd dX3_placeAt_90 (by omega) ?_
    refine st_iload_n dX3_placeAt_91 rfl ?_
    refine st_isub dX3_placeAt_92 (by omega) ?_
    refine st_ireturn dX3_placeAt_93 rfl ⟨_, rfl, ⟨by rw [plc_0]; omega, rfl⟩⟩
  · skip
    refine st_tableIn 40 dX3_placeAt_9 (by decide) (by decide) rfl (by decide) ?_
    refine st_iload dX3_placeAt_40 rfl ?_
    refine st_iload_n dX3_placeAt_42 rfl ?_
    refine st_iadd dX3_placeAt_43 (by omega) ?_
    refine st_aload_n dX3_placeAt_44 rfl ?_
    refine st_get dX3_placeAt_45 fl_X3_9 rfl rfl rfl ?_
    refine fAt_v (x' := (w : Int)) hw ?_
    refine st_iconst dX3_placeAt_48 (by decide) ?_
    refine st_isub dX3_placeAt_49 (by omega) ?_
    refine st_iload_n dX3_placeAt_50 rfl ?_
    refine st_isub dX3_placeAt_51 (by omega) ?_
    refine st_isub dX3_placeAt_52 (by omega) ?_
    refine st_ireturn dX3_placeAt_53 rfl ⟨_, rfl, ⟨by rw [plc_1]; omega, rfl⟩⟩
  · skip
    refine st_tableIn 54 dX3_placeAt_9 (by decide) (by decide) rfl (by decide) ?_
    refine st_iload dX3_placeAt_54 rfl ?_
    refine st_iload_n dX3_placeAt_56 rfl ?_
    refine st_iload_n dX3_placeAt_57 rfl ?_
    refine st_isub dX3_placeAt_58 (by omega) ?_
    refine st_abs dX3_placeAt_59 lb_abs_X3 lb_abs_s lb_math lb_abs_c (by decide) (Nat.le_of_ble_eq_true rfl) (by split <;> omega) ?_
    refine st_iadd dX3_placeAt_62 (by split <;> omega) ?_
    refine st_ireturn dX3_placeAt_63 rfl ⟨_, rfl, ⟨by rw [plc_24 (Or.inl rfl)]; split <;> split <;> omega, rfl⟩⟩
  · skip
    refine st_tableIn 64 dX3_placeAt_9 (by decide) (by decide) rfl (by decide) ?_
    refine st_iload dX3_placeAt_64 rfl ?_
    refine st_iload_n dX3_placeAt_66 rfl ?_
    refine st_iload_n dX3_placeAt_67 rfl ?_
    refine st_icmp_ge 82 dX3_placeAt_68 (by decide) (fun h68 => ?_) (fun h68 => ?_)
    · skip
      refine st_iload_n dX3_placeAt_82 rfl ?_
      refine st_iload_n dX3_placeAt_83 rfl ?_
      refine st_isub dX3_placeAt_84 (by omega) ?_
      refine st_iadd dX3_placeAt_85 (by omega) ?_
      refine st_ireturn dX3_placeAt_86 rfl ⟨_, rfl, ⟨by rw [plc_3]; split <;> omega, rfl⟩⟩
    · skip
      refine st_iload_n dX3_placeAt_71 rfl ?_
      refine st_iload_n dX3_placeAt_72 rfl ?_
      refine st_isub dX3_placeAt_73 (by omega) ?_
      refine st_aload_n dX3_placeAt_74 rfl ?_
      refine st_get dX3_placeAt_75 fl_X3_9 rfl rfl rfl ?_
      refine fAt_v (x' := (w : Int)) hw ?_
      refine st_iadd dX3_placeAt_78 (by omega) ?_
      refine st_goto 85 dX3_placeAt_79 (by decide) ?_
      refine st_iadd dX3_placeAt_85 (by omega) ?_
      refine st_ireturn dX3_placeAt_86 rfl ⟨_, rfl, ⟨by rw [plc_3]; split <;> omega, rfl⟩⟩
  · skip
    refine st_tableIn 54 dX3_placeAt_9 (by decide) (by decide) rfl (by decide) ?_
    refine st_iload dX3_placeAt_54 rfl ?_
    refine st_iload_n dX3_placeAt_56 rfl ?_
    refine st_iload_n dX3_placeAt_57 rfl ?_
    refine st_isub dX3_placeAt_58 (by omega) ?_
    refine st_abs dX3_placeAt_59 lb_abs_X3 lb_abs_s lb_math lb_abs_c (by decide) (Nat.le_of_ble_eq_true rfl) (by split <;> omega) ?_
    refine st_iadd dX3_placeAt_62 (by split <;> omega) ?_
    refine st_ireturn dX3_placeAt_63 rfl ⟨_, rfl, ⟨by rw [plc_24 (Or.inr rfl)]; split <;> split <;> omega, rfl⟩⟩
set_option maxHeartbeats 4000000 in
set_option maxRecDepth 100000 in
theorem c_cellAt {g : fG} {M : fM} {i w a b : Nat} {kd p : Int} (hw : M 2 i 0 = (w : Int)) (hw1 : 1 ≤ w ∧ w ≤ 6) (ha : a < w) (hb : b < w) (hkd : kd = 0 ∨ kd = 1 ∨ kd = 2 ∨ kd = 3 ∨ kd = 4) (hp : 2 ≤ p ∧ p ≤ 97) (hL : ∀ q, q < 2 * w - 1 → 0 ≤ M 3 i q ∧ M 3 i q < p) :
    fCi g Y_X3_cellAt [vr 2 i, vi kd, vi (a : Int), vi (b : Int), vi p] M (fun z M' => z = ent p w kd (M 3 i) a b ∧ M' = M) := by
  have hLp := hL _ (plc_lt (kind := kd) ha hb)
  refine fCi_of _ [some (vr 2 i), some (vi kd), some (vi (a : Int)), some (vi (b : Int)), some (vi p), none] (by decide) (Nat.le_of_ble_eq_true rfl) rfl (fun h => h) ?_
  refine st_aload_n dX3_cellAt_0 rfl ?_
  refine st_getr (i' := i) dX3_cellAt_1 fl_X3_21 rfl rfl rfl (fun h => h) ?_
  refine st_aload_n dX3_cellAt_4 rfl ?_
  refine st_iload_n dX3_cellAt_5 rfl ?_
  refine st_iload_n dX3_cellAt_6 rfl ?_
  refine st_iload_n dX3_cellAt_7 rfl ?_
  refine st_callVi [vi kd, vi (a : Int), vi (b : Int)] [vr 3 i] dX3_cellAt_8 vl_X3_34 rfl rfl rfl rfl (Nat.le_of_ble_eq_true rfl) (by decide) (c_placeAt hw hw1 ha hb hkd) (fun z M1 q8 => ?_)
  obtain ⟨rfl, rfl⟩ := q8
  refine st_iald (j := (plc w kd a b)) dX3_cellAt_11 rfl rfl rfl rfl (by have := plc_lt (kind := kd) ha hb; omega) ?_
  refine st_istore (ls' := [some (vr 2 i), some (vi kd), some (vi (a : Int)), some (vi (b : Int)), some (vi p), some (vi (M1 3 i (plc w kd a b)))]) dX3_cellAt_12 (by decide) rfl rfl ?_
  refine st_iload_n dX3_cellAt_14 rfl ?_
  refine st_iconst dX3_cellAt_15 (by decide) ?_
  refine st_icmp_ne 37 dX3_cellAt_16 (by decide) (fun h16 => ?_) (fun h16 => ?_)
  · skip
    refine st_iload dX3_cellAt_37 rfl ?_
    refine st_ireturn dX3_cellAt_39 rfl ⟨_, rfl, ⟨?_, rfl⟩⟩
    first
      | (unfold ent; rw [if_pos ⟨by omega, by omega, by assumption⟩]; done)
      | (unfold ent; rw [if_neg (fun h => by first | exact absurd h.1 (by omega) | exact absurd h.2.1 (by omega) | exact absurd (by assumption) h.2.2)])
  · skip
    refine st_iload_n dX3_cellAt_19 rfl ?_
    refine st_iload_n dX3_cellAt_20 rfl ?_
    refine st_icmp_ge 37 dX3_cellAt_21 (by decide) (fun h21 => ?_) (fun h21 => ?_)
    · skip
      refine st_iload dX3_cellAt_37 rfl ?_
      refine st_ireturn dX3_cellAt_39 rfl ⟨_, rfl, ⟨?_, rfl⟩⟩
      first
        | (unfold ent; rw [if_pos ⟨by omega, by omega, by assumption⟩]; done)
        | (unfold ent; rw [if_neg (fun h => by first | exact absurd h.1 (by omega) | exact absurd h.2.1 (by omega) | exact absurd (by assumption) h.2.2)])
    · skip
      refine st_iload dX3_cellAt_24 rfl ?_
      refine st_if_eq 37 dX3_cellAt_26 (by decide) (fun h26 => ?_) (fun h26 => ?_)
      · skip
        refine st_iload dX3_cellAt_37 rfl ?_
        refine st_ireturn dX3_cellAt_39 rfl ⟨_, rfl, ⟨?_, rfl⟩⟩
        first
          | (unfold ent; rw [if_pos ⟨by omega, by omega, by assumption⟩]; done)
          | (unfold ent; rw [if_neg (fun h => by first | exact absurd h.1 (by omega) | exact absurd h.2.1 (by omega) | exact absurd (by assumption) h.2.2)])
      · skip
        refine st_iload dX3_cellAt_29 rfl ?_
        refine st_iload dX3_cellAt_31 rfl ?_
        refine st_isub dX3_cellAt_33 (by omega) ?_
        refine st_goto 39 dX3_cellAt_34 (by decide) ?_
        refine st_ireturn dX3_cellAt_39 rfl ⟨_, rfl, ⟨?_, rfl⟩⟩
        first
          | (unfold ent; rw [if_pos ⟨by omega, by omega, by assumption⟩]; done)
          | (unfold ent; rw [if_neg (fun h => by first | exact absurd h.1 (by omega) | exact absurd h.2.1 (by omega) | exact absurd (by assumption) h.2.2)])
def stk (M : fM) (i o : Nat) : fM := fun k a b => if a = i ∧ ((k = 2 ∧ b < 3) ∨ (k = 3 ∧ b < 11) ∨ (k = 4 ∧ b < 6)) then M k o b else M k a b
set_option maxHeartbeats 4000000 in
set_option maxRecDepth 100000 in
theorem c_takeFrom {g : fG} {M : fM} {i o : Nat} (hio : i ≠ o) :
    fCv g Y_X3_takeFrom [vr 2 i, vr 2 o] M (fun M' => M' = stk M i o) := by
  refine fCv_of _ [some (vr 2 i), some (vr 2 o)] (by decide) (Nat.le_of_ble_eq_true rfl) rfl (fun h => h) ?_
  refine st_aload_n dX3_takeFrom_0 rfl ?_
  refine st_aload_n dX3_takeFrom_1 rfl ?_
  refine st_get dX3_takeFrom_2 fl_X3_9 rfl rfl rfl ?_
  refine st_put dX3_takeFrom_5 fl_X3_9 fp_X3_0.1 (Or.inl fp_X3_0.2) rfl rfl rfl ?_
  refine st_aload_n dX3_takeFrom_8 rfl ?_
  refine st_aload_n dX3_takeFrom_9 rfl ?_
  refine st_get dX3_takeFrom_10 fl_X3_15 rfl rfl rfl ?_
  refine st_put dX3_takeFrom_13 fl_X3_15 fp_X3_1.1 (Or.inl fp_X3_1.2) rfl rfl rfl ?_
  refine st_aload_n dX3_takeFrom_16 rfl ?_
  refine st_aload_n dX3_takeFrom_17 rfl ?_
  refine st_get dX3_takeFrom_18 fl_X3_18 rfl rfl rfl ?_
  refine st_put dX3_takeFrom_21 fl_X3_18 fp_X3_2.1 (Or.inl fp_X3_2.2) rfl rfl rfl ?_
  refine st_aload_n dX3_takeFrom_24 rfl ?_
  refine st_getr (i' := o) dX3_takeFrom_25 fl_X3_21 rfl rfl rfl (fun h => h) ?_
  refine st_iconst dX3_takeFrom_28 (by decide) ?_
  refine st_aload_n dX3_takeFrom_29 rfl ?_
  refine st_getr (i' := i) dX3_takeFrom_30 fl_X3_21 rfl rfl rfl (fun h => h) ?_
  refine st_iconst dX3_takeFrom_33 (by decide) ?_
  refine st_bipush dX3_takeFrom_34 (by decide) ?_
  refine st_copyi (a := 0) (b := 0) (n := 11) dX3_takeFrom_36 lb_copy_X3 lb_copy_n lb_copy_s lb_sys rfl rfl rfl rfl rfl rfl rfl rfl (by omega) (by omega) (by decide) (Nat.le_of_ble_eq_true rfl) ?_
  refine st_aload_n dX3_takeFrom_39 rfl ?_
  refine st_getr (i' := o) dX3_takeFrom_40 fl_X3_25 rfl rfl rfl (fun h => h) ?_
  refine st_iconst dX3_takeFrom_43 (by decide) ?_
  refine st_aload_n dX3_takeFrom_44 rfl ?_
  refine st_getr (i' := i) dX3_takeFrom_45 fl_X3_25 rfl rfl rfl (fun h => h) ?_
  refine st_iconst dX3_takeFrom_48 (by decide) ?_
  refine st_bipush dX3_takeFrom_49 (by decide) ?_
  refine st_copyi (a := 0) (b := 0) (n := 6) dX3_takeFrom_51 lb_copy_X3 lb_copy_n lb_copy_s lb_sys rfl rfl rfl rfl rfl rfl rfl rfl (by omega) (by omega) (by decide) (Nat.le_of_ble_eq_true rfl) ?_
  refine st_return dX3_takeFrom_54 rfl ⟨rfl, (by funext k a b; simp only [fcp, fup, stk]; grind (splits := 40))⟩
