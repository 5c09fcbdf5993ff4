def lvO (M : fM) (i : Nat) (p : Int) (n m : Nat) : fM := fun k a b => if a = i ∧ ((k = 3 ∧ b < n) ∨ (k = 4 ∧ b < m)) then M k i b % p else M k a b
theorem lvO_0 (M : fM) (i : Nat) (p : Int) : lvO M i p 0 0 = M := by
  funext k a b
  unfold lvO
  rw [if_neg (by omega)]
theorem lvO_off {M : fM} {i : Nat} {p : Int} {n m k a b : Nat} (h : ¬ (a = i ∧ ((k = 3 ∧ b < n) ∨ (k = 4 ∧ b < m)))) : lvO M i p n m k a b = M k a b := by
  unfold lvO
  rw [if_neg h]
theorem lvO_n {M : fM} {i : Nat} {p : Int} {n : Nat} : fup (lvO M i p n 0) 3 i n (M 3 i n % p) = lvO M i p (n + 1) 0 := by
  funext k a b
  simp only [fup, lvO]
  grind (splits := 40)
theorem lvO_m {M : fM} {i : Nat} {p : Int} {n m : Nat} : fup (lvO M i p n m) 4 i m (M 4 i m % p) = lvO M i p n (m + 1) := by
  funext k a b
  simp only [fup, lvO]
  grind (splits := 40)
set_option maxHeartbeats 4000000 in
set_option maxRecDepth 100000 in
theorem leaveOver_2 {g : fG} {M : fM} {p : Int} {i w : Nat} (hw : M 2 i 0 = (w : Int)) (hw1 : 1 ≤ w ∧ w ≤ 6) (hp : 0 < p) (hr1 : ∀ j, j < 2 * w - 1 → 0 ≤ M 3 i j) (hr2 : ∀ j, j < w → 0 ≤ M 4 i j) :
    ∀ (n c : Nat), c + n = w → fAt g Y_X3_leaveOver 28 [some (vr 2 i), some (vi p), some (vi (c : Int))] [] (lvO M i p (2 * w - 1) c) (fN (fun M' => M' = lvO M i p (2 * w - 1) w)) := by
  intro n
  induction n with
  | zero =>
    intro c hn
    have e : c = w := by omega
    subst e
    refine st_iload_n dX3_leaveOver_28 rfl ?_
    refine st_aload_n dX3_leaveOver_29 rfl ?_
    refine st_get dX3_leaveOver_30 fl_X3_9 rfl rfl rfl ?_
    refine fAt_v (x' := (c : Int)) (by rw [lvO_off (by omega)]; exact hw) ?_
    refine st_icmp_ge 52 dX3_leaveOver_33 (by decide) (fun h33 => ?_) (fun h33 => ?_)
    · skip
      refine st_return dX3_leaveOver_52 rfl ⟨rfl, rfl⟩
    · skip
      exact absurd h33 (by omega)
  | succ n ih =>
    intro c hn
    refine st_iload_n dX3_leaveOver_28 rfl ?_
    refine st_aload_n dX3_leaveOver_29 rfl ?_
    refine st_get dX3_leaveOver_30 fl_X3_9 rfl rfl rfl ?_
    refine fAt_v (x' := (w : Int)) (by rw [lvO_off (by omega)]; exact hw) ?_
    refine st_icmp_ge 52 dX3_leaveOver_33 (by decide) (fun h33 => ?_) (fun h33 => ?_)
    · skip
      exact absurd h33 (by omega)
    · skip
      refine st_aload_n dX3_leaveOver_36 rfl ?_
      refine st_getr (i' := i) dX3_leaveOver_37 fl_X3_25 rfl rfl rfl (fun h => h) ?_
      refine st_iload_n dX3_leaveOver_40 rfl ?_
      refine st_dup2 dX3_leaveOver_41 rfl rfl ?_
      refine st_iald (j := c) dX3_leaveOver_42 rfl rfl rfl rfl (by omega) ?_
      refine fAt_v (x' := M 4 i c) (lvO_off (by omega)) ?_
      have hcc := hr2 c (by omega)
      refine st_iload_n dX3_leaveOver_43 rfl ?_
      refine st_irem dX3_leaveOver_44 (by omega) (by omega) ?_
      refine st_iast (j := c) dX3_leaveOver_45 rfl rfl rfl rfl (by omega) ?_
      refine fAt_m lvO_m ?_
      refine st_iinc (ls' := [some (vr 2 i), some (vi p), some (vi ((c : Int) + 1))]) dX3_leaveOver_46 rfl (by omega) (by decide) rfl rfl ?_
      refine st_goto 28 dX3_leaveOver_49 (by decide) ?_
      exact ih (c + 1) (by omega)
set_option maxHeartbeats 4000000 in
set_option maxRecDepth 100000 in
theorem leaveOver_1 {g : fG} {M : fM} {p : Int} {i w : Nat} (hw : M 2 i 0 = (w : Int)) (hw1 : 1 ≤ w ∧ w ≤ 6) (hp : 0 < p) (hr1 : ∀ j, j < 2 * w - 1 → 0 ≤ M 3 i j) (hr2 : ∀ j, j < w → 0 ≤ M 4 i j) :
    ∀ (n c : Nat), c + n = 2 * w - 1 → fAt g Y_X3_leaveOver 2 [some (vr 2 i), some (vi p), some (vi (c : Int))] [] (lvO M i p c 0) (fN (fun M' => M' = lvO M i p (2 * w - 1) w)) := by
  intro n
  induction n with
  | zero =>
    intro c hn
    have e : c = 2 * w - 1 := by omega
    subst e
    refine st_iload_n dX3_leaveOver_2 rfl ?_
    refine st_aload_n dX3_leaveOver_3 rfl ?_
    refine st_callVi [] [vi ((2 * w - 1 : Nat) : Int)] dX3_leaveOver_4 vl_X3_44 rfl rfl rfl rfl (Nat.le_of_ble_eq_true rfl) (by decide) (c_rowLength (w := w) (by rw [lvO_off (by omega)]; exact hw) hw1) (fun z M1 q4 => ?_)
    obtain ⟨rfl, rfl⟩ := q4
    refine st_icmp_ge 26 dX3_leaveOver_7 (by decide) (fun h7 => ?_) (fun h7 => ?_)
    · skip
      refine st_iconst dX3_leaveOver_26 (by decide) ?_
      refine st_istore_n (ls' := [some (vr 2 i), some (vi p), some (vi 0)]) dX3_leaveOver_27 (by decide) rfl rfl ?_
      exact leaveOver_2 hw hw1 hp hr1 hr2 w 0 (by omega)
    · skip
      exact absurd h7 (by omega)
  | succ n ih =>
    intro c hn
    refine st_iload_n dX3_leaveOver_2 rfl ?_
    refine st_aload_n dX3_leaveOver_3 rfl ?_
    refine st_callVi [] [vi (c : Int)] dX3_leaveOver_4 vl_X3_44 rfl rfl rfl rfl (Nat.le_of_ble_eq_true rfl) (by decide) (c_rowLength (w := w) (by rw [lvO_off (by omega)]; exact hw) hw1) (fun z M1 q4 => ?_)
    obtain ⟨rfl, rfl⟩ := q4
    refine st_icmp_ge 26 dX3_leaveOver_7 (by decide) (fun h7 => ?_) (fun h7 => ?_)
    · skip
      exact absurd h7 (by omega)
    · skip
      refine st_aload_n dX3_leaveOver_10 rfl ?_
      refine st_getr (i' := i) dX3_leaveOver_11 fl_X3_21 rfl rfl rfl (fun h => h) ?_
      refine st_iload_n dX3_leaveOver_14 rfl ?_
      refine st_dup2 dX3_leaveOver_15 rfl rfl ?_
      refine st_iald (j := c) dX3_leaveOver_16 rfl rfl rfl rfl (by omega) ?_
      refine fAt_v (x' := M 3 i c) (lvO_off (by omega)) ?_
      have hcc := hr1 c (by omega)
      refine st_iload_n dX3_leaveOver_17 rfl ?_
      refine st_irem dX3_leaveOver_18 (by omega) (by omega) ?_
      refine st_iast (j := c) dX3_leaveOver_19 rfl rfl rfl rfl (by omega) ?_
      refine fAt_m lvO_n ?_
      refine st_iinc (ls' := [some (vr 2 i), some (vi p), some (vi ((c : Int) + 1))]) dX3_leaveOver_20 rfl (by omega) (by decide) rfl rfl ?_
      refine st_goto 2 dX3_leaveOver_23 (by decide) ?_
      exact ih (c + 1) (by omega)
set_option maxHeartbeats 4000000 in
set_option maxRecDepth 100000 in
theorem c_leaveOver {g : fG} {M : fM} {p : Int} {i w : Nat} (hw : M 2 i 0 = (w : Int)) (hw1 : 1 ≤ w ∧ w ≤ 6) (hp : 0 < p) (hr1 : ∀ j, j < 2 * w - 1 → 0 ≤ M 3 i j) (hr2 : ∀ j, j < w → 0 ≤ M 4 i j) :
    fCv g Y_X3_leaveOver [vr 2 i, vi p] M (fun M' => M' = lvO M i p (2 * w - 1) w) := by
  refine fCv_of _ [some (vr 2 i), some (vi p), none] (by decide) (Nat.le_of_ble_eq_true rfl) rfl (fun h => h) ?_
  refine st_iconst dX3_leaveOver_0 (by decide) ?_
  refine st_istore_n (ls' := [some (vr 2 i), some (vi p), some (vi 0)]) dX3_leaveOver_1 (by decide) rfl rfl ?_
  refine fAt_m (lvO_0 M i p).symm ?_
  exact leaveOver_1 hw hw1 hp hr1 hr2 (2 * w - 1) 0 (by omega)
def adB (M : fM) (i w : Nat) : fM := fun k a b => if a = i ∧ k = 3 ∧ b ≤ 2 * w then (if b = 0 ∨ b = 2 * w then 0 else M 3 i (b - 1)) else if a = i ∧ k = 4 ∧ b = w then 0 else if a = i ∧ k = 2 ∧ b = 0 then (w : Int) + 1 else M k a b
set_option maxHeartbeats 4000000 in
set_option maxRecDepth 100000 in
theorem c_addBorder {g : fG} {M : fM} {i w : Nat} (hw : M 2 i 0 = (w : Int)) (hw1 : 1 ≤ w ∧ w < 6) :
    fCv g Y_X3_addBorder [vr 2 i] M (fun M' => M' = adB M i w) := by
  refine fCv_of _ [some (vr 2 i), none] (by decide) (Nat.le_of_ble_eq_true rfl) rfl (fun h => h) ?_
  refine st_aload_n dX3_addBorder_0 rfl ?_
  refine st_callVi [] [] dX3_addBorder_1 vl_X3_44 rfl rfl rfl rfl (Nat.le_of_ble_eq_true rfl) (by decide) (c_rowLength hw (by omega)) (fun z M1 q1 => ?_)
  obtain ⟨rfl, rfl⟩ := q1
  refine st_istore_n (ls' := [some (vr 2 i), some (vi ((2 * w - 1 : Nat) : Int))]) dX3_addBorder_4 (by decide) rfl rfl ?_
  refine st_aload_n dX3_addBorder_5 rfl ?_
  refine st_getr (i' := i) dX3_addBorder_6 fl_X3_21 rfl rfl rfl (fun h => h) ?_
  refine st_iconst dX3_addBorder_9 (by decide) ?_
  refine st_aload_n dX3_addBorder_10 rfl ?_
  refine st_getr (i' := i) dX3_addBorder_11 fl_X3_21 rfl rfl rfl (fun h => h) ?_
  refine st_iconst dX3_addBorder_14 (by decide) ?_
  refine st_iload_n dX3_addBorder_15 rfl ?_
  refine st_copyi (a := 0) (b := 1) (n := (2 * w - 1)) dX3_addBorder_16 lb_copy_X3 lb_copy_n lb_copy_s lb_sys rfl rfl rfl rfl rfl rfl rfl (by omega) (by omega) (by omega) (by decide) (Nat.le_of_ble_eq_true rfl) ?_
  refine st_aload_n dX3_addBorder_19 rfl ?_
  refine st_getr (i' := i) dX3_addBorder_20 fl_X3_21 rfl rfl rfl (fun h => h) ?_
  refine st_iconst dX3_addBorder_23 (by decide) ?_
  refine st_iconst dX3_addBorder_24 (by decide) ?_
  refine st_iast (j := 0) dX3_addBorder_25 rfl rfl rfl rfl (by decide) ?_
  refine st_aload_n dX3_addBorder_26 rfl ?_
  refine st_getr (i' := i) dX3_addBorder_27 fl_X3_21 rfl rfl rfl (fun h => h) ?_
  refine st_iload_n dX3_addBorder_30 rfl ?_
  refine st_iconst dX3_addBorder_31 (by decide) ?_
  refine st_iadd dX3_addBorder_32 (by omega) ?_
  refine st_iconst dX3_addBorder_33 (by decide) ?_
  refine st_iast (j := ((2 * w - 1) + 1)) dX3_addBorder_34 rfl rfl rfl (by omega) (by omega) ?_
  refine st_aload_n dX3_addBorder_35 rfl ?_
  refine st_getr (i' := i) dX3_addBorder_36 fl_X3_25 rfl rfl rfl (fun h => h) ?_
  refine st_aload_n dX3_addBorder_39 rfl ?_
  refine st_get dX3_addBorder_40 fl_X3_9 rfl rfl rfl ?_
  refine fAt_v (x' := (w : Int)) hw ?_
  refine st_iconst dX3_addBorder_43 (by decide) ?_
  refine st_iast (j := w) dX3_addBorder_44 rfl rfl rfl rfl (by omega) ?_
  refine st_aload_n dX3_addBorder_45 rfl ?_
  refine st_dup dX3_addBorder_46 rfl ?_
  refine st_get dX3_addBorder_47 fl_X3_9 rfl rfl rfl ?_
  refine fAt_v (x' := (w : Int)) hw ?_
  refine st_iconst dX3_addBorder_50 (by decide) ?_
  refine st_iadd dX3_addBorder_51 (by omega) ?_
  refine st_put dX3_addBorder_52 fl_X3_9 fp_X3_0.1 (Or.inl fp_X3_0.2) rfl rfl rfl ?_
  refine st_return dX3_addBorder_55 rfl ⟨rfl, (by funext k a b; simp only [fcp, fup, adB]; grind (splits := 60))⟩
def drB (M : fM) (i w : Nat) : fM := fun k a b => if a = i ∧ k = 3 ∧ b < 2 * w - 3 then M 3 i (b + 1) else if a = i ∧ k = 2 ∧ b = 0 then (w : Int) - 1 else M k a b
set_option maxHeartbeats 4000000 in
set_option maxRecDepth 100000 in
theorem c_dropBorder {g : fG} {M : fM} {i w : Nat} (hw : M 2 i 0 = (w : Int)) (hw1 : 1 < w ∧ w ≤ 6) :
    fCv g Y_X3_dropBorder [vr 2 i] M (fun M' => M' = drB M i w) := by
  refine fCv_of _ [some (vr 2 i)] (by decide) (Nat.le_of_ble_eq_true rfl) rfl (fun h => h) ?_
  refine st_aload_n dX3_dropBorder_0 rfl ?_
  refine st_getr (i' := i) dX3_dropBorder_1 fl_X3_21 rfl rfl rfl (fun h => h) ?_
  refine st_iconst dX3_dropBorder_4 (by decide) ?_
  refine st_aload_n dX3_dropBorder_5 rfl ?_
  refine st_getr (i' := i) dX3_dropBorder_6 fl_X3_21 rfl rfl rfl (fun h => h) ?_
  refine st_iconst dX3_dropBorder_9 (by decide) ?_
  refine st_aload_n dX3_dropBorder_10 rfl ?_
  refine st_callVi [] [vi 0, vr 3 i, vi 1, vr 3 i] dX3_dropBorder_11 vl_X3_44 rfl rfl rfl rfl (Nat.le_of_ble_eq_true rfl) (by decide) (c_rowLength hw (by omega)) (fun z M1 q1 => ?_)
  obtain ⟨rfl, rfl⟩ := q1
  refine st_iconst dX3_dropBorder_14 (by decide) ?_
  refine st_isub dX3_dropBorder_15 (by omega) ?_
  refine st_copyi (a := 1) (b := 0) (n := (2 * w - 3)) dX3_dropBorder_16 lb_copy_X3 lb_copy_n lb_copy_s lb_sys rfl rfl rfl rfl rfl rfl rfl (by omega) (by omega) (by omega) (by decide) (Nat.le_of_ble_eq_true rfl) ?_
  refine st_aload_n dX3_dropBorder_19 rfl ?_
  refine st_dup dX3_dropBorder_20 rfl ?_
  refine st_get dX3_dropBorder_21 fl_X3_9 rfl rfl rfl ?_
  refine fAt_v (x' := (w : Int)) hw ?_
  refine st_iconst dX3_dropBorder_24 (by decide) ?_
  refine st_isub dX3_dropBorder_25 (by omega) ?_
  refine st_put dX3_dropBorder_26 fl_X3_9 fp_X3_0.1 (Or.inl fp_X3_0.2) rfl rfl rfl ?_
  refine st_return dX3_dropBorder_29 rfl ⟨rfl, (by funext k a b; simp only [fcp, fup, drB]; grind (splits := 60))⟩
def rvR (M : fM) (i L n : Nat) : fM := fun k a b => if k = 3 ∧ a = i ∧ (b < n ∨ (L < n + b ∧ b ≤ L)) then M 3 i (L - b) else M k a b
theorem rvR_0 (M : fM) (i L : Nat) : rvR M i L 0 = M := by
  funext k a b
  unfold rvR
  rw [if_neg (by omega)]
theorem rvR_off {M : fM} {i L n k a b : Nat} (h : ¬ (k = 3 ∧ a = i ∧ (b < n ∨ (L < n + b ∧ b ≤ L)))) : rvR M i L n k a b = M k a b := by
  unfold rvR
  rw [if_neg h]
theorem rvR_s {M : fM} {i L n : Nat} (h : n + n < L) : fup (fup (rvR M i L n) 3 i n (M 3 i (L - n))) 3 i (L - n) (M 3 i n) = rvR M i L (n + 1) := by
  funext k a b
  simp only [fup, rvR]
  by_cases e1 : k = 3 ∧ a = i ∧ b = L - n
  · have e2 : L - b = n := by omega
    rw [if_pos e1, if_pos ⟨e1.1, e1.2.1, Or.inr (by omega)⟩, e2]
  · rw [if_neg e1]
    by_cases e2 : k = 3 ∧ a = i ∧ b = n
    · rw [if_pos e2, if_pos ⟨e2.1, e2.2.1, Or.inl (by omega)⟩, e2.2.2]
    · rw [if_neg e2]
      by_cases e3 : k = 3 ∧ a = i ∧ (b < n ∨ (L < n + b ∧ b ≤ L))
      · rw [if_pos e3, if_pos ⟨e3.1, e3.2.1, by omega⟩]
      · rw [if_neg e3, if_neg (by omega)]
def rvA (M : fM) (i w : Nat) : fM := fun k a b => if k = 3 ∧ a = i ∧ b < 2 * w - 1 then M 3 i (2 * w - 2 - b) else M k a b
theorem rvR_end {M : fM} {i w : Nat} (hw : 1 ≤ w) : rvR M i (2 * w - 2) (w - 1) = rvA M i w := by
  funext k a b
  simp only [rvR, rvA]
  by_cases e : k = 3 ∧ a = i ∧ b < 2 * w - 1
  · rw [if_pos e]
    by_cases e2 : b = w - 1
    · rw [if_neg (by omega), e.1, e.2.1, e2, show 2 * w - 2 - (w - 1) = w - 1 by omega]
    · rw [if_pos ⟨e.1, e.2.1, by omega⟩]
  · rw [if_neg e, if_neg (by omega)]
set_option maxHeartbeats 4000000 in
set_option maxRecDepth 100000 in
theorem reverseRow_l {g : fG} {M : fM} {i w : Nat} (hw : M 2 i 0 = (w : Int)) (hw1 : 1 ≤ w ∧ w ≤ 6) :
    ∀ (n c : Nat), c + n = w - 1 → fAt g Y_X3_reverseRow 9 [some (vr 2 i), some (vi (((2 * w - 2) : Nat) : Int)), some (vi (c : Int)), none] [] (rvR M i (2 * w - 2) c) (fN (fun M' => M' = rvA M i w)) := by
  intro n
  induction n with
  | zero =>
    intro c hn
    have e : c = w - 1 := by omega
    subst e
    refine st_iload_n dX3_reverseRow_9 rfl ?_
    refine st_iload_n dX3_reverseRow_10 rfl ?_
    refine st_iload_n dX3_reverseRow_11 rfl ?_
    refine st_isub dX3_reverseRow_12 (by omega) ?_
    refine st_icmp_ge 52 dX3_reverseRow_13 (by decide) (fun h13 => ?_) (fun h13 => ?_)
    · skip
      refine st_return dX3_reverseRow_52 rfl ⟨rfl, rvR_end hw1.1⟩
    · skip
      exact absurd h13 (by omega)
  | succ n ih =>
    intro c hn
    refine st_iload_n dX3_reverseRow_9 rfl ?_
    refine st_iload_n dX3_reverseRow_10 rfl ?_
    refine st_iload_n dX3_reverseRow_11 rfl ?_
    refine st_isub dX3_reverseRow_12 (by omega) ?_
    refine st_icmp_ge 52 dX3_reverseRow_13 (by decide) (fun h13 => ?_) (fun h13 => ?_)
    · skip
      exact absurd h13 (by omega)
    · skip
      refine st_aload_n dX3_reverseRow_16 rfl ?_
      refine st_getr (i' := i) dX3_reverseRow_17 fl_X3_21 rfl rfl rfl (fun h => h) ?_
      refine st_iload_n dX3_reverseRow_20 rfl ?_
      refine st_iald (j := c) dX3_reverseRow_21 rfl rfl rfl rfl (by omega) ?_
      refine fAt_v (x' := M 3 i c) (rvR_off (by omega)) ?_
      refine st_istore_n (ls' := [some (vr 2 i), some (vi (((2 * w - 2) : Nat) : Int)), some (vi (c : Int)), some (vi (M 3 i c))]) dX3_reverseRow_22 (by decide) rfl rfl ?_
      refine st_aload_n dX3_reverseRow_23 rfl ?_
      refine st_getr (i' := i) dX3_reverseRow_24 fl_X3_21 rfl rfl rfl (fun h => h) ?_
      refine st_iload_n dX3_reverseRow_27 rfl ?_
      refine st_aload_n dX3_reverseRow_28 rfl ?_
      refine st_getr (i' := i) dX3_reverseRow_29 fl_X3_21 rfl rfl rfl (fun h => h) ?_
      refine st_iload_n dX3_reverseRow_32 rfl ?_
      refine st_iload_n dX3_reverseRow_33 rfl ?_
      refine st_isub dX3_reverseRow_34 (by omega) ?_
      refine st_iald (j := (2 * w - 2 - c)) dX3_reverseRow_35 rfl rfl rfl (by omega) (by omega) ?_
      refine fAt_v (x' := M 3 i (2 * w - 2 - c)) (rvR_off (by omega)) ?_
      refine st_iast (j := c) dX3_reverseRow_36 rfl rfl rfl rfl (by omega) ?_
      refine st_aload_n dX3_reverseRow_37 rfl ?_
      refine st_getr (i' := i) dX3_reverseRow_38 fl_X3_21 rfl rfl rfl (fun h => h) ?_
      refine st_iload_n dX3_reverseRow_41 rfl ?_
      refine st_iload_n dX3_reverseRow_42 rfl ?_
      refine st_isub dX3_reverseRow_43 (by omega) ?_
      refine st_iload_n dX3_reverseRow_44 rfl ?_
      refine st_iast (j := (2 * w - 2 - c)) dX3_reverseRow_45 rfl rfl rfl (by omega) (by omega) ?_
      refine fAt_m (rvR_s (by omega)) ?_
      refine st_iinc (ls' := [some (vr 2 i), some (vi (((2 * w - 2) : Nat) : Int)), some (vi ((c : Int) + 1)), some (vi (M 3 i c))]) dX3_reverseRow_46 rfl (by omega) (by decide) rfl rfl ?_
      refine st_goto 9 dX3_reverseRow_49 (by decide) ?_
      refine fAt_del 3 rfl ?_
      exact ih (c + 1) (by omega)
set_option maxHeartbeats 4000000 in
set_option maxRecDepth 100000 in
theorem c_reverseRow {g : fG} {M : fM} {i w : Nat} (hw : M 2 i 0 = (w : Int)) (hw1 : 1 ≤ w ∧ w ≤ 6) :
    fCv g Y_X3_reverseRow [vr 2 i] M (fun M' => M' = rvA M i w) := by
  refine fCv_of _ [some (vr 2 i), none, none, none] (by decide) (Nat.le_of_ble_eq_true rfl) rfl (fun h => h) ?_
  refine st_aload_n dX3_reverseRow_0 rfl ?_
  refine st_callVi [] [] dX3_reverseRow_1 vl_X3_44 rfl rfl rfl rfl (Nat.le_of_ble_eq_true rfl) (by decide) (c_rowLength hw (by omega)) (fun z M1 q1 => ?_)
  obtain ⟨rfl, rfl⟩ := q1
  refine st_iconst dX3_reverseRow_4 (by decide) ?_
  refine st_isub dX3_reverseRow_5 (by omega) ?_
  refine fAt_v (x' := ((2 * w - 2 : Nat) : Int)) (by omega) ?_
  refine st_istore_n (ls' := [some (vr 2 i), some (vi (((2 * w - 2) : Nat) : Int)), none, none]) dX3_reverseRow_6 (by decide) rfl rfl ?_
  refine st_iconst dX3_reverseRow_7 (by decide) ?_
  refine st_istore_n (ls' := [some (vr 2 i), some (vi (((2 * w - 2) : Nat) : Int)), some (vi 0), none]) dX3_reverseRow_8 (by decide) rfl rfl ?_
  refine fAt_m (rvR_0 M1 i (2 * w - 2)).symm ?_
  exact reverseRow_l hw hw1 (w - 1) 0 (by omega)
theorem land31 {x : Int} (h0 : 0 ≤ x) (h1 : x ≤ 9223372036854775807) : (Int64.ofInt x &&& Int64.ofInt 2147483647).toInt = x % 2147483648 := by
  have e1 : Int64.ofInt x = lN x.toNat := by unfold lN; rw [← Int64.ofInt_eq_ofNat]; congr 1; omega
  have e2 : Int64.ofInt 2147483647 = lN (2 ^ 31 - 1) := rfl
  have e3 : lN x.toNat &&& lN (2 ^ 31 - 1) = lN (x.toNat % 2 ^ 31) := by
    apply Int64.toBitVec_inj.mp
    rw [Int64.toBitVec_and]
    unfold lN
    rw [Int64.toBitVec_ofNat', Int64.toBitVec_ofNat', Int64.toBitVec_ofNat']
    apply BitVec.eq_of_toNat_eq
    rw [BitVec.toNat_and, BitVec.toNat_ofNat, BitVec.toNat_ofNat, BitVec.toNat_ofNat, Nat.mod_eq_of_lt (show x.toNat < 2 ^ 64 by omega), show (2 ^ 31 - 1) % 2 ^ 64 = 2 ^ 31 - 1 by decide, Nat.and_two_pow_sub_one_eq_mod, Nat.mod_eq_of_lt (show x.toNat % 2 ^ 31 < 2 ^ 64 by omega)]
  rw [e1, e2, e3, pk_lT (by omega)]
  omega
/-- a turn of a drift: the draw, the place, the number -/
def dDr (d : Int) : Int := (d * 1103515245 + 12345) % 2147483648
def drf (M : fM) (i w : Nat) (p : Int) : fM := fun k a b => if a = i ∧ k = 2 ∧ b = 2 then dDr (M 2 i 2) else if a = i ∧ k = 3 ∧ (b : Int) = dDr (M 2 i 2) / 65536 % ((2 * w - 1 : Nat) : Int) then dDr (M 2 i 2) / 256 % p else M k a b
set_option maxHeartbeats 4000000 in
set_option maxRecDepth 100000 in
theorem c_driftOnce {g : fG} {M : fM} {p : Int} {i w : Nat} (hw : M 2 i 0 = (w : Int)) (hw1 : 1 ≤ w ∧ w ≤ 6) (hp : 2 ≤ p ∧ p ≤ 97) (hd : 0 ≤ M 2 i 2 ∧ M 2 i 2 ≤ 2147483647) :
    fCv g Y_X3_driftOnce [vr 2 i, vi p] M (fun M' => M' = drf M i w p) := by
  refine fCv_of _ [some (vr 2 i), some (vi p)] (by decide) (Nat.le_of_ble_eq_true rfl) rfl (fun h => h) ?_
  refine st_aload_n dX3_driftOnce_0 rfl ?_
  refine st_aload_n dX3_driftOnce_1 rfl ?_
  refine st_get dX3_driftOnce_2 fl_X3_18 rfl rfl rfl ?_
  refine st_i2l dX3_driftOnce_5 ?_
  refine st_ldc2 (v := 1103515245) (1103515245) dX3_driftOnce_6 (ftb_in 500 (by decide +kernel) rfl) (by decide +kernel) ?_
  refine st_lmul dX3_driftOnce_9 (by omega) ?_
  refine st_ldc2 (v := 12345) (12345) dX3_driftOnce_10 (ftb_in 501 (by decide +kernel) rfl) (by decide +kernel) ?_
  refine st_ladd dX3_driftOnce_13 (by omega) ?_
  refine st_ldc2 (v := 2147483647) (2147483647) dX3_driftOnce_14 (ftb_in 502 (by decide +kernel) rfl) (by decide +kernel) ?_
  refine st_land dX3_driftOnce_17 ?_
  refine fAt_vl (x' := dDr (M 2 i 2)) (land31 (by omega) (by omega)) ?_
  have hdd : 0 ≤ dDr (M 2 i 2) ∧ dDr (M 2 i 2) < 2147483648 := modb (by decide)
  refine st_l2i dX3_driftOnce_18 (by omega) ?_
  refine st_put dX3_driftOnce_19 fl_X3_18 fp_X3_2.1 (Or.inl fp_X3_2.2) rfl rfl rfl ?_
  refine st_aload_n dX3_driftOnce_22 rfl ?_
  refine st_getr (i' := i) dX3_driftOnce_23 fl_X3_21 rfl rfl rfl (fun h => h) ?_
  refine st_aload_n dX3_driftOnce_26 rfl ?_
  refine st_get dX3_driftOnce_27 fl_X3_18 rfl rfl rfl ?_
  refine fAt_v (x' := dDr (M 2 i 2)) fup_eq ?_
  refine st_ldc (v := 65536) (65536) dX3_driftOnce_30 (ftb_in 503 (by decide +kernel) rfl) (by decide +kernel) ?_
  refine st_idiv dX3_driftOnce_32 (by omega) (by omega) ?_
  refine st_aload_n dX3_driftOnce_33 rfl ?_
  refine st_callVi [] [vi ((dDr (M 2 i 2)) / 65536), vr 3 i] dX3_driftOnce_34 vl_X3_44 rfl rfl rfl rfl (Nat.le_of_ble_eq_true rfl) (by decide) (c_rowLength (w := w) (by rw [fup_ne (by omega)]; exact hw) (by omega)) (fun z M1 q1 => ?_)
  obtain ⟨rfl, rfl⟩ := q1
  refine st_irem dX3_driftOnce_37 (by omega) (by omega) ?_
  have hpl := modb (x := dDr (M 2 i 2) / 65536) (p := ((2 * w - 1 : Nat) : Int)) (by omega)
  refine st_aload_n dX3_driftOnce_38 rfl ?_
  refine st_get dX3_driftOnce_39 fl_X3_18 rfl rfl rfl ?_
  refine fAt_v (x' := dDr (M 2 i 2)) fup_eq ?_
  refine st_sipush dX3_driftOnce_42 (by decide) ?_
  refine st_idiv dX3_driftOnce_45 (by omega) (by omega) ?_
  refine st_iload_n dX3_driftOnce_46 rfl ?_
  refine st_irem dX3_driftOnce_47 (by omega) (by omega) ?_
  refine st_iast (j := (dDr (M 2 i 2) / 65536 % ((2 * w - 1 : Nat) : Int)).toNat) dX3_driftOnce_48 rfl rfl rfl (Int.toNat_of_nonneg hpl.1).symm (by omega) ?_
  refine st_return dX3_driftOnce_49 rfl ⟨rfl, ?_⟩
  funext k a b
  simp only [fup, drf]
  by_cases e1 : a = i ∧ k = 2 ∧ b = 2
  · rw [if_pos e1, if_neg (by omega), if_pos ⟨e1.2.1, e1.1, e1.2.2⟩]
  · rw [if_neg e1]
    by_cases e2 : a = i ∧ k = 3 ∧ (b : Int) = dDr (M 2 i 2) / 65536 % ((2 * w - 1 : Nat) : Int)
    · rw [if_pos e2, if_pos ⟨e2.2.1, e2.1, by omega⟩]
    · rw [if_neg e2, if_neg (fun h => e2 ⟨h.2.1, h.1, by rw [h.2.2]; exact Int.toNat_of_nonneg hpl.1⟩), if_neg (fun h => e1 ⟨h.2.1, h.1, h.2.2⟩)]
