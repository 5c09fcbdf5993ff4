/-! ===== Book, Sheet ===== -/
/-- what is known is one more; the eldest is lost where there is no room -/
def bkR (M : fM) (kn od : Nat) : fM := fun k a b => if k = 1 ∧ a = 0 ∧ b = 1 ∧ kn < 8 then (kn : Int) + 1 else if k = 1 ∧ a = 0 ∧ b = 3 ∧ 8 ≤ kn then ((od : Int) + 1) % 8 else stk M (1 + (od + kn) % 8) 0 k a b
theorem stk_off {M : fM} {i o k a b : Nat} (h : ¬ (a = i ∧ ((k = 2 ∧ b < 3) ∨ (k = 3 ∧ b < 11) ∨ (k = 4 ∧ b < 6)))) : stk M i o k a b = M k a b := by
  unfold stk
  rw [if_neg h]
set_option maxHeartbeats 4000000 in
set_option maxRecDepth 100000 in
theorem c_remember {g : fG} {M : fM} {kn od : Nat} (hkn : M 1 0 1 = (kn : Int)) (hod : M 1 0 3 = (od : Int)) (hk8 : kn ≤ 8) (ho8 : od < 8) :
    fCv g Y_X0_remember [vr 1 0] M (fun M' => M' = bkR M kn od) := by
  refine fCv_of _ [some (vr 1 0)] (by decide) (Nat.le_of_ble_eq_true rfl) rfl (fun h => h) ?_
  refine st_aload_n dX0_remember_0 rfl ?_
  refine st_getr (i' := 0) dX0_remember_1 fl_X0_28 rfl rfl rfl (fun _ => by decide) ?_
  refine st_aload_n dX0_remember_4 rfl ?_
  refine st_get dX0_remember_5 fl_X0_25 rfl rfl rfl ?_
  refine fAt_v (x' := (od : Int)) hod ?_
  refine st_aload_n dX0_remember_8 rfl ?_
  refine st_get dX0_remember_9 fl_X0_15 rfl rfl rfl ?_
  refine fAt_v (x' := (kn : Int)) hkn ?_
  refine st_iadd dX0_remember_12 (by omega) ?_
  refine st_bipush dX0_remember_13 (by decide) ?_
  refine st_irem dX0_remember_15 (by omega) (by omega) ?_
  refine st_aald (j := ((od + kn) % 8)) (i' := (1 + ((od + kn) % 8))) dX0_remember_16 rfl rfl rfl rfl ⟨_, rfl, rfl⟩ (by omega) (show ((od + kn) % 8) < 8 from by omega) rfl (fun _ => show (1 + ((od + kn) % 8)) < 21 from by omega) ?_
  refine st_aload_n dX0_remember_17 rfl ?_
  refine st_getr (i' := 0) dX0_remember_18 fl_X0_21 rfl rfl rfl (fun _ => by decide) ?_
  refine st_callVv [vr 2 0] [] dX0_remember_21 vl_X0_32 rfl rfl rfl rfl (Nat.le_of_ble_eq_true rfl) (by decide) (c_takeFrom (i := 1 + (od + kn) % 8) (o := 0) (by omega)) (fun M1 q1 => ?_)
  subst q1
  refine st_aload_n dX0_remember_24 rfl ?_
  refine st_get dX0_remember_25 fl_X0_15 rfl rfl rfl ?_
  refine fAt_v (x' := (kn : Int)) (by rw [stk_off (by omega)]; exact hkn) ?_
  refine st_bipush dX0_remember_28 (by decide) ?_
  refine st_icmp_ge 46 dX0_remember_30 (by decide) (fun h30 => ?_) (fun h30 => ?_)
  · skip
    refine st_aload_n dX0_remember_46 rfl ?_
    refine st_aload_n dX0_remember_47 rfl ?_
    refine st_get dX0_remember_48 fl_X0_25 rfl rfl rfl ?_
    refine fAt_v (x' := (od : Int)) (by rw [stk_off (by omega)]; exact hod) ?_
    refine st_iconst dX0_remember_51 (by decide) ?_
    refine st_iadd dX0_remember_52 (by omega) ?_
    refine st_bipush dX0_remember_53 (by decide) ?_
    refine st_irem dX0_remember_55 (by omega) (by omega) ?_
    refine st_put dX0_remember_56 fl_X0_25 fp_X0_3.1 (Or.inl fp_X0_3.2) rfl rfl rfl ?_
    refine st_return dX0_remember_59 rfl ⟨rfl, (by funext k a b; simp only [fup, bkR]; grind (splits := 40))⟩
  · skip
    refine st_aload_n dX0_remember_33 rfl ?_
    refine st_dup dX0_remember_34 rfl ?_
    refine st_get dX0_remember_35 fl_X0_15 rfl rfl rfl ?_
    refine fAt_v (x' := (kn : Int)) (by rw [stk_off (by omega)]; exact hkn) ?_
    refine st_iconst dX0_remember_38 (by decide) ?_
    refine st_iadd dX0_remember_39 (by omega) ?_
    refine st_put dX0_remember_40 fl_X0_15 fp_X0_1.1 (Or.inl fp_X0_1.2) rfl rfl rfl ?_
    refine st_goto 59 dX0_remember_43 (by decide) ?_
    refine st_return dX0_remember_59 rfl ⟨rfl, (by funext k a b; simp only [fup, bkR]; grind (splits := 40))⟩
def bkS (M : fM) (kn od : Nat) : fM := fun k a b => if k = 1 ∧ a = 0 ∧ b = 1 then (kn : Int) - 1 else stk M 0 (1 + (od + (kn - 1)) % 8) k a b
set_option maxHeartbeats 4000000 in
set_option maxRecDepth 100000 in
theorem c_stepBack {g : fG} {M : fM} {kn od : Nat} (hkn : M 1 0 1 = (kn : Int)) (hod : M 1 0 3 = (od : Int)) (hk8 : kn ≤ 8) (ho8 : od < 8) :
    fCi g Y_X0_stepBack [vr 1 0] M (fun z M' => (kn = 0 ∧ z = 0 ∧ M' = M) ∨ (0 < kn ∧ z = 1 ∧ M' = bkS M kn od)) := by
  refine fCi_of _ [some (vr 1 0)] (by decide) (Nat.le_of_ble_eq_true rfl) rfl (fun h => h) ?_
  refine st_aload_n dX0_stepBack_0 rfl ?_
  refine st_get dX0_stepBack_1 fl_X0_15 rfl rfl rfl ?_
  refine fAt_v (x' := (kn : Int)) hkn ?_
  refine st_if_ne 9 dX0_stepBack_4 (by decide) (fun h4 => ?_) (fun h4 => ?_)
  · skip
    refine st_aload_n dX0_stepBack_9 rfl ?_
    refine st_dup dX0_stepBack_10 rfl ?_
    refine st_get dX0_stepBack_11 fl_X0_15 rfl rfl rfl ?_
    refine fAt_v (x' := (kn : Int)) hkn ?_
    refine st_iconst dX0_stepBack_14 (by decide) ?_
    refine st_isub dX0_stepBack_15 (by omega) ?_
    refine st_put dX0_stepBack_16 fl_X0_15 fp_X0_1.1 (Or.inl fp_X0_1.2) rfl rfl rfl ?_
    refine st_aload_n dX0_stepBack_19 rfl ?_
    refine st_getr (i' := 0) dX0_stepBack_20 fl_X0_21 rfl rfl rfl (fun _ => by decide) ?_
    refine st_aload_n dX0_stepBack_23 rfl ?_
    refine st_getr (i' := 0) dX0_stepBack_24 fl_X0_28 rfl rfl rfl (fun _ => by decide) ?_
    refine st_aload_n dX0_stepBack_27 rfl ?_
    refine st_get dX0_stepBack_28 fl_X0_25 rfl rfl rfl ?_
    refine fAt_v (x' := (od : Int)) (by rw [fup_ne (by omega)]; exact hod) ?_
    refine st_aload_n dX0_stepBack_31 rfl ?_
    refine st_get dX0_stepBack_32 fl_X0_15 rfl rfl rfl ?_
    refine fAt_v (x' := ((kn - 1 : Nat) : Int)) (by rw [fup_eq]; omega) ?_
    refine st_iadd dX0_stepBack_35 (by omega) ?_
    refine st_bipush dX0_stepBack_36 (by decide) ?_
    refine st_irem dX0_stepBack_38 (by omega) (by omega) ?_
    refine st_aald (j := ((od + (kn - 1)) % 8)) (i' := (1 + ((od + (kn - 1)) % 8))) dX0_stepBack_39 rfl rfl rfl rfl ⟨_, rfl, rfl⟩ (by omega) (show ((od + (kn - 1)) % 8) < 8 from by omega) rfl (fun _ => show (1 + ((od + (kn - 1)) % 8)) < 21 from by omega) ?_
    refine st_callVv [vr 2 (1 + ((od + (kn - 1)) % 8))] [] dX0_stepBack_40 vl_X0_32 rfl rfl rfl rfl (Nat.le_of_ble_eq_true rfl) (by decide) (c_takeFrom (i := 0) (o := 1 + (od + (kn - 1)) % 8) (by omega)) (fun M1 q1 => ?_)
    subst q1
    refine st_iconst dX0_stepBack_43 (by decide) ?_
    refine st_zreturn dX0_stepBack_44 rfl (by omega) ⟨_, rfl, Or.inr ⟨by omega, rfl, (by funext k a b; simp only [fup, stk, bkS]; grind (splits := 40))⟩⟩
  · skip
    refine st_iconst dX0_stepBack_7 (by decide) ?_
    refine st_zreturn dX0_stepBack_8 rfl (by omega) ⟨_, rfl, Or.inl ⟨by omega, rfl, rfl⟩⟩
set_option maxHeartbeats 4000000 in
set_option maxRecDepth 100000 in
theorem c_forget {g : fG} {M : fM}  :
    fCv g Y_X0_forget [vr 1 0] M (fun M' => M' = fup M 1 0 1 0) := by
  refine fCv_of _ [some (vr 1 0)] (by decide) (Nat.le_of_ble_eq_true rfl) rfl (fun h => h) ?_
  refine st_aload_n dX0_forget_0 rfl ?_
  refine st_iconst dX0_forget_1 (by decide) ?_
  refine st_put dX0_forget_2 fl_X0_15 fp_X0_1.1 (Or.inl fp_X0_1.2) rfl rfl rfl ?_
  refine st_return dX0_forget_5 rfl ⟨rfl, rfl⟩
def bkT (M : fM) (b o n : Nat) : fM := fun k a j => if k = 1 ∧ a = b ∧ (j = 0 ∨ j = 1 ∨ j = 3) then M 1 o j else if 9 * b ≤ a ∧ a < 9 * b + n ∧ ((k = 2 ∧ j < 3) ∨ (k = 3 ∧ j < 11) ∨ (k = 4 ∧ j < 6)) then M k (9 * o + (a - 9 * b)) j else M k a j
theorem bkT_s {M : fM} {b o n : Nat} (hb : b < 2) (ho : o < 2) (hn : n < 9) (hbo : b ≠ o) : stk (bkT M b o n) (9 * b + n) (9 * o + n) = bkT M b o (n + 1) := by
  funext k a j
  have e0 : ∀ k, ((k = 2 ∧ j < 3) ∨ (k = 3 ∧ j < 11) ∨ (k = 4 ∧ j < 6)) → bkT M b o n k (9 * o + n) j = M k (9 * o + n) j := by
    intro k hk
    unfold bkT
    rw [if_neg (by omega), if_neg (by omega)]
  unfold stk
  by_cases e : a = 9 * b + n ∧ ((k = 2 ∧ j < 3) ∨ (k = 3 ∧ j < 11) ∨ (k = 4 ∧ j < 6))
  · rw [if_pos e, e0 k e.2]
    unfold bkT
    rw [if_neg (by omega), if_pos ⟨by omega, by omega, e.2⟩, show 9 * o + (a - 9 * b) = 9 * o + n by omega]
  · rw [if_neg e]
    unfold bkT
    by_cases e2 : k = 1 ∧ a = b ∧ (j = 0 ∨ j = 1 ∨ j = 3)
    · rw [if_pos e2, if_pos e2]
    · rw [if_neg e2, if_neg e2]
      by_cases e3 : 9 * b ≤ a ∧ a < 9 * b + n ∧ ((k = 2 ∧ j < 3) ∨ (k = 3 ∧ j < 11) ∨ (k = 4 ∧ j < 6))
      · rw [if_pos e3, if_pos ⟨e3.1, by omega, e3.2.2⟩]
      · rw [if_neg e3, if_neg (fun h => e3 ⟨h.1, by
          rcases Nat.lt_or_ge a (9 * b + n) with q | q
          · exact q
          · exact absurd ⟨by omega, h.2.2⟩ e, h.2.2⟩)]
theorem bkT_1 {M : fM} {b o : Nat} : fup (fup (fup M 1 b 0 (M 1 o 0)) 1 b 1 (M 1 o 1)) 1 b 3 (M 1 o 3) = bkT M b o 0 := by
  funext k a j
  unfold bkT fup
  by_cases e : k = 1 ∧ a = b
  · obtain ⟨rfl, rfl⟩ := e
    by_cases e1 : j = 3
    · subst e1; simp
    · by_cases e2 : j = 1
      · subst e2; simp
      · by_cases e3 : j = 0
        · subst e3; simp
        · rw [if_neg (by omega), if_neg (by omega), if_neg (by omega), if_neg (by omega), if_neg (by omega)]
  · rw [if_neg (by omega), if_neg (by omega), if_neg (by omega), if_neg (by omega), if_neg (by omega)]
set_option maxHeartbeats 4000000 in
set_option maxRecDepth 100000 in
theorem Book_takeFrom_l1 {g : fG} {M : fM} :
    ∀ (n c : Nat), c + n = 8 → fAt g Y_X0_takeFrom 37 [some (vr 1 1), some (vr 1 0), some (vi (c : Int))] [] (bkT M 1 0 (c + 1)) (fN (fun M' => M' = bkT M 1 0 9)) := by
  intro n
  induction n with
  | zero =>
    intro c hn
    have e : c = 8 := by omega
    subst e
    refine st_iload_n dX0_takeFrom_37 rfl ?_
    refine st_bipush dX0_takeFrom_38 (by decide) ?_
    refine st_icmp_ge 64 dX0_takeFrom_40 (by decide) (fun h40 => ?_) (fun h40 => ?_)
    · skip
      refine st_return dX0_takeFrom_64 rfl ⟨rfl, rfl⟩
    · skip
      exact absurd h40 (by omega)
  | succ n ih =>
    intro c hn
    refine st_iload_n dX0_takeFrom_37 rfl ?_
    refine st_bipush dX0_takeFrom_38 (by decide) ?_
    refine st_icmp_ge 64 dX0_takeFrom_40 (by decide) (fun h40 => ?_) (fun h40 => ?_)
    · skip
      exact absurd h40 (by omega)
    · skip
      refine st_aload_n dX0_takeFrom_43 rfl ?_
      refine st_getr (i' := 1) dX0_takeFrom_44 fl_X0_28 rfl rfl rfl (fun _ => by decide) ?_
      refine st_iload_n dX0_takeFrom_47 rfl ?_
      refine st_aald (j := c) (i' := (10 + c)) dX0_takeFrom_48 rfl rfl rfl rfl ⟨_, rfl, rfl⟩ rfl (show c < 8 from by omega) rfl (fun _ => show (10 + c) < 21 from by omega) ?_
      refine st_aload_n dX0_takeFrom_49 rfl ?_
      refine st_getr (i' := 0) dX0_takeFrom_50 fl_X0_28 rfl rfl rfl (fun _ => by decide) ?_
      refine st_iload_n dX0_takeFrom_53 rfl ?_
      refine st_aald (j := c) (i' := (1 + c)) dX0_takeFrom_54 rfl rfl rfl rfl ⟨_, rfl, rfl⟩ rfl (show c < 8 from by omega) rfl (fun _ => show (1 + c) < 21 from by omega) ?_
      refine st_callVv [vr 2 (1 + c)] [] dX0_takeFrom_55 vl_X0_32 rfl rfl rfl rfl (Nat.le_of_ble_eq_true rfl) (by decide) (c_takeFrom (by omega)) (fun M1 q1 => ?_)
      subst q1
      refine fAt_m (M' := bkT M 1 0 (c + 1 + 1)) ((congr (congrArg (stk (bkT M 1 0 (c + 1))) (by omega)) (by omega)).trans (bkT_s (b := 1) (o := 0) (n := c + 1) (by omega) (by omega) (by omega) (by omega))) ?_
      refine st_iinc (ls' := [some (vr 1 1), some (vr 1 0), some (vi ((c : Int) + 1))]) dX0_takeFrom_58 rfl (by omega) (by decide) rfl rfl ?_
      refine st_goto 37 dX0_takeFrom_61 (by decide) ?_
      exact ih (c + 1) (by omega)
set_option maxHeartbeats 4000000 in
set_option maxRecDepth 100000 in
theorem c_Book_takeFrom_1 {g : fG} {M : fM}  :
    fCv g Y_X0_takeFrom [vr 1 1, vr 1 0] M (fun M' => M' = bkT M 1 0 9) := by
  refine fCv_of _ [some (vr 1 1), some (vr 1 0), none] (by decide) (Nat.le_of_ble_eq_true rfl) rfl (fun h => h) ?_
  refine st_aload_n dX0_takeFrom_0 rfl ?_
  refine st_aload_n dX0_takeFrom_1 rfl ?_
  refine st_get dX0_takeFrom_2 fl_X0_9 rfl rfl rfl ?_
  refine fAt_v (x' := M 1 0 0) rfl ?_
  refine st_put dX0_takeFrom_5 fl_X0_9 fp_X0_0.1 (Or.inl fp_X0_0.2) rfl rfl rfl ?_
  refine st_aload_n dX0_takeFrom_8 rfl ?_
  refine st_aload_n dX0_takeFrom_9 rfl ?_
  refine st_get dX0_takeFrom_10 fl_X0_15 rfl rfl rfl ?_
  refine fAt_v (x' := M 1 0 1) (fup_ne (by omega)) ?_
  refine st_put dX0_takeFrom_13 fl_X0_15 fp_X0_1.1 (Or.inl fp_X0_1.2) rfl rfl rfl ?_
  refine st_aload_n dX0_takeFrom_16 rfl ?_
  refine st_aload_n dX0_takeFrom_17 rfl ?_
  refine st_get dX0_takeFrom_18 fl_X0_25 rfl rfl rfl ?_
  refine fAt_v (x' := M 1 0 3) (by rw [fup_ne (by omega), fup_ne (by omega)]) ?_
  refine st_put dX0_takeFrom_21 fl_X0_25 fp_X0_3.1 (Or.inl fp_X0_3.2) rfl rfl rfl ?_
  refine fAt_m (bkT_1 (b := 1) (o := 0)) ?_
  refine st_aload_n dX0_takeFrom_24 rfl ?_
  refine st_getr (i' := 9) dX0_takeFrom_25 fl_X0_21 rfl rfl rfl (fun _ => by decide) ?_
  refine st_aload_n dX0_takeFrom_28 rfl ?_
  refine st_getr (i' := 0) dX0_takeFrom_29 fl_X0_21 rfl rfl rfl (fun _ => by decide) ?_
  refine st_callVv [vr 2 0] [] dX0_takeFrom_32 vl_X0_32 rfl rfl rfl rfl (Nat.le_of_ble_eq_true rfl) (by decide) (c_takeFrom (by omega)) (fun M1 q1 => ?_)
  subst q1
  refine fAt_m (bkT_s (b := 1) (o := 0) (n := 0) (by omega) (by omega) (by omega) (by omega)) ?_
  refine st_iconst dX0_takeFrom_35 (by decide) ?_
  refine st_istore_n (ls' := [some (vr 1 1), some (vr 1 0), some (vi 0)]) dX0_takeFrom_36 (by decide) rfl rfl ?_
  exact Book_takeFrom_l1 8 0 (by omega)
set_option maxHeartbeats 4000000 in
set_option maxRecDepth 100000 in
theorem Book_takeFrom_l0 {g : fG} {M : fM} :
    ∀ (n c : Nat), c + n = 8 → fAt g Y_X0_takeFrom 37 [some (vr 1 0), some (vr 1 1), some (vi (c : Int))] [] (bkT M 0 1 (c + 1)) (fN (fun M' => M' = bkT M 0 1 9)) := by
  intro n
  induction n with
  | zero =>
    intro c hn
    have e : c = 8 := by omega
    subst e
    refine st_iload_n dX0_takeFrom_37 rfl ?_
    refine st_bipush dX0_takeFrom_38 (by decide) ?_
    refine st_icmp_ge 64 dX0_takeFrom_40 (by decide) (fun h40 => ?_) (fun h40 => ?_)
    · skip
      refine st_return dX0_takeFrom_64 rfl ⟨rfl, rfl⟩
    · skip
      exact absurd h40 (by omega)
  | succ n ih =>
    intro c hn
    refine st_iload_n dX0_takeFrom_37 rfl ?_
    refine st_bipush dX0_takeFrom_38 (by decide) ?_
    refine st_icmp_ge 64 dX0_takeFrom_40 (by decide) (fun h40 => ?_) (fun h40 => ?_)
    · skip
      exact absurd h40 (by omega)
    · skip
      refine st_aload_n dX0_takeFrom_43 rfl ?_
      refine st_getr (i' := 0) dX0_takeFrom_44 fl_X0_28 rfl rfl rfl (fun _ => by decide) ?_
      refine st_iload_n dX0_takeFrom_47 rfl ?_
      refine st_aald (j := c) (i' := (1 + c)) dX0_takeFrom_48 rfl rfl rfl rfl ⟨_, rfl, rfl⟩ rfl (show c < 8 from by omega) rfl (fun _ => show (1 + c) < 21 from by omega) ?_
      refine st_aload_n dX0_takeFrom_49 rfl ?_
      refine st_getr (i' := 1) dX0_takeFrom_50 fl_X0_28 rfl rfl rfl (fun _ => by decide) ?_
      refine st_iload_n dX0_takeFrom_53 rfl ?_
      refine st_aald (j := c) (i' := (10 + c)) dX0_takeFrom_54 rfl rfl rfl rfl ⟨_, rfl, rfl⟩ rfl (show c < 8 from by omega) rfl (fun _ => show (10 + c) < 21 from by omega) ?_
      refine st_callVv [vr 2 (10 + c)] [] dX0_takeFrom_55 vl_X0_32 rfl rfl rfl rfl (Nat.le_of_ble_eq_true rfl) (by decide) (c_takeFrom (by omega)) (fun M1 q1 => ?_)
      subst q1
      refine fAt_m (M' := bkT M 0 1 (c + 1 + 1)) ((congr (congrArg (stk (bkT M 0 1 (c + 1))) (by omega)) (by omega)).trans (bkT_s (b := 0) (o := 1) (n := c + 1) (by omega) (by omega) (by omega) (by omega))) ?_
      refine st_iinc (ls' := [some (vr 1 0), some (vr 1 1), some (vi ((c : Int) + 1))]) dX0_takeFrom_58 rfl (by omega) (by decide) rfl rfl ?_
      refine st_goto 37 dX0_takeFrom_61 (by decide) ?_
      exact ih (c + 1) (by omega)
set_option maxHeartbeats 4000000 in
set_option maxRecDepth 100000 in
theorem c_Book_takeFrom_0 {g : fG} {M : fM}  :
    fCv g Y_X0_takeFrom [vr 1 0, vr 1 1] M (fun M' => M' = bkT M 0 1 9) := by
  refine fCv_of _ [some (vr 1 0), some (vr 1 1), none] (by decide) (Nat.le_of_ble_eq_true rfl) rfl (fun h => h) ?_
  refine st_aload_n dX0_takeFrom_0 rfl ?_
  refine st_aload_n dX0_takeFrom_1 rfl ?_
  refine st_get dX0_takeFrom_2 fl_X0_9 rfl rfl rfl ?_
  refine fAt_v (x' := M 1 1 0) rfl ?_
  refine st_put dX0_takeFrom_5 fl_X0_9 fp_X0_0.1 (Or.inl fp_X0_0.2) rfl rfl rfl ?_
  refine st_aload_n dX0_takeFrom_8 rfl ?_
  refine st_aload_n dX0_takeFrom_9 rfl ?_
  refine st_get dX0_takeFrom_10 fl_X0_15 rfl rfl rfl ?_
  refine fAt_v (x' := M 1 1 1) (fup_ne (by omega)) ?_
  refine st_put dX0_takeFrom_13 fl_X0_15 fp_X0_1.1 (Or.inl fp_X0_1.2) rfl rfl rfl ?_
  refine st_aload_n dX0_takeFrom_16 rfl ?_
  refine st_aload_n dX0_takeFrom_17 rfl ?_
  refine st_get dX0_takeFrom_18 fl_X0_25 rfl rfl rfl ?_
  refine fAt_v (x' := M 1 1 3) (by rw [fup_ne (by omega), fup_ne (by omega)]) ?_
  refine st_put dX0_takeFrom_21 fl_X0_25 fp_X0_3.1 (Or.inl fp_X0_3.2) rfl rfl rfl ?_
  refine fAt_m (bkT_1 (b := 0) (o := 1)) ?_
  refine st_aload_n dX0_takeFrom_24 rfl ?_
  refine st_getr (i' := 0) dX0_takeFrom_25 fl_X0_21 rfl rfl rfl (fun _ => by decide) ?_
  refine st_aload_n dX0_takeFrom_28 rfl ?_
  refine st_getr (i' := 9) dX0_takeFrom_29 fl_X0_21 rfl rfl rfl (fun _ => by decide) ?_
  refine st_callVv [vr 2 9] [] dX0_takeFrom_32 vl_X0_32 rfl rfl rfl rfl (Nat.le_of_ble_eq_true rfl) (by decide) (c_takeFrom (by omega)) (fun M1 q1 => ?_)
  subst q1
  refine fAt_m (bkT_s (b := 0) (o := 1) (n := 0) (by omega) (by omega) (by omega) (by omega)) ?_
  refine st_iconst dX0_takeFrom_35 (by decide) ?_
  refine st_istore_n (ls' := [some (vr 1 0), some (vr 1 1), some (vi 0)]) dX0_takeFrom_36 (by decide) rfl rfl ?_
  exact Book_takeFrom_l0 8 0 (by omega)
set_option maxHeartbeats 4000000 in
set_option maxRecDepth 100000 in
theorem c_isMissing {g : fG} {M : fM} {i : Nat} :
    fCi g Y_X4_isMissing [vr 20 i] M (fun z M' => ((z = 1 ∧ M 20 i 0 = -1) ∨ (z = 0 ∧ M 20 i 0 ≠ -1)) ∧ M' = M) := by
  refine fCi_of _ [some (vr 20 i)] (by decide) (Nat.le_of_ble_eq_true rfl) rfl (fun h => h) ?_
  refine st_aload_n dX4_isMissing_0 rfl ?_
  refine st_get dX4_isMissing_1 fl_X4_11 rfl rfl rfl ?_
  refine st_iconst dX4_isMissing_4 (by decide) ?_
  refine st_icmp_ne 12 dX4_isMissing_5 (by decide) (fun h5 => ?_) (fun h5 => ?_)
  · skip
    refine st_iconst dX4_isMissing_12 (by decide) ?_
    refine st_zreturn dX4_isMissing_13 rfl (by omega) ⟨_, rfl, ⟨by omega, rfl⟩⟩
  · skip
    refine st_iconst dX4_isMissing_8 (by decide) ?_
    refine st_goto 13 dX4_isMissing_9 (by decide) ?_
    refine st_zreturn dX4_isMissing_13 rfl (by omega) ⟨_, rfl, ⟨by omega, rfl⟩⟩
set_option maxHeartbeats 4000000 in
set_option maxRecDepth 100000 in
theorem c_lose {g : fG} {M : fM} {i : Nat} :
    fCv g Y_X4_lose [vr 20 i] M (fun M' => M' = fup (fup M 20 i 0 (-1)) 20 i 1 0) := by
  refine fCv_of _ [some (vr 20 i)] (by decide) (Nat.le_of_ble_eq_true rfl) rfl (fun h => h) ?_
  refine st_aload_n dX4_lose_0 rfl ?_
  refine st_iconst dX4_lose_1 (by decide) ?_
  refine st_put dX4_lose_2 fl_X4_11 fp_X4_0.1 (Or.inl fp_X4_0.2) rfl rfl rfl ?_
  refine st_aload_n dX4_lose_5 rfl ?_
  refine st_iconst dX4_lose_6 (by decide) ?_
  refine st_put dX4_lose_7 fl_X4_15 fp_X4_1.1 (Or.inl fp_X4_1.2) rfl rfl rfl ?_
  refine st_return dX4_lose_10 rfl ⟨rfl, rfl⟩
set_option maxHeartbeats 4000000 in
set_option maxRecDepth 100000 in
theorem c_holds {g : fG} {M : fM} {i : Nat} {a n : Int} (hl : 0 ≤ M 20 i 1 ∧ M 20 i 1 ≤ 24) :
    fCi g Y_X4_holds [vr 20 i, vi a, vi n] M (fun z M' => ((z = 1 ∧ 0 ≤ a ∧ 0 ≤ n ∧ a + n ≤ M 20 i 1) ∨ (z = 0 ∧ ¬ (0 ≤ a ∧ 0 ≤ n ∧ a + n ≤ M 20 i 1))) ∧ M' = M) := by
  refine fCi_of _ [some (vr 20 i), some (vi a), some (vi n)] (by decide) (Nat.le_of_ble_eq_true rfl) rfl (fun h => h) ?_
  refine fAt_rk 2 rfl (fun hrn => ?_)
  refine st_iload_n dX4_holds_0 rfl ?_
  refine st_if_lt 22 dX4_holds_1 (by decide) (fun h1 => ?_) (fun h1 => ?_)
  · skip
    refine st_iconst dX4_holds_22 (by decide) ?_
    refine st_zreturn dX4_holds_23 rfl (by omega) ⟨_, rfl, ⟨by omega, rfl⟩⟩
  · skip
    refine st_iload_n dX4_holds_4 rfl ?_
    refine st_if_lt 22 dX4_holds_5 (by decide) (fun h5 => ?_) (fun h5 => ?_)
    · skip
      refine st_iconst dX4_holds_22 (by decide) ?_
      refine st_zreturn dX4_holds_23 rfl (by omega) ⟨_, rfl, ⟨by omega, rfl⟩⟩
    · skip
      refine st_iload_n dX4_holds_8 rfl ?_
      refine st_aload_n dX4_holds_9 rfl ?_
      refine st_get dX4_holds_10 fl_X4_15 rfl rfl rfl ?_
      refine st_iload_n dX4_holds_13 rfl ?_
      refine st_isub dX4_holds_14 (by omega) ?_
      refine st_icmp_gt 22 dX4_holds_15 (by decide) (fun h15 => ?_) (fun h15 => ?_)
      · skip
        refine st_iconst dX4_holds_22 (by decide) ?_
        refine st_zreturn dX4_holds_23 rfl (by omega) ⟨_, rfl, ⟨by omega, rfl⟩⟩
      · skip
        refine st_iconst dX4_holds_18 (by decide) ?_
        refine st_goto 23 dX4_holds_19 (by decide) ?_
        refine st_zreturn dX4_holds_23 rfl (by omega) ⟨_, rfl, ⟨by omega, rfl⟩⟩
def shB (M : fM) (i : Nat) (la n : Int) (c : Nat) : fM := fun k a b => if k = 20 ∧ a = i ∧ b = 0 then la else if k = 20 ∧ a = i ∧ b = 1 then n else if k = 21 ∧ a = i ∧ b < c then 0 else M k a b
set_option maxHeartbeats 4000000 in
set_option maxRecDepth 100000 in
theorem begin_l {g : fG} {M : fM} {i : Nat} {la n : Int} :
    ∀ (m c : Nat), c + m = 24 → fAt g Y_X4_begin 12 [some (vr 20 i), some (vi la), some (vi n), some (vi (c : Int))] [] (shB M i la n c) (fN (fun M' => M' = shB M i la n 24)) := by
  intro m
  induction m with
  | zero =>
    intro c hn
    have e : c = 24 := by omega
    subst e
    refine st_iload_n dX4_begin_12 rfl ?_
    refine st_bipush dX4_begin_13 (by decide) ?_
    refine st_icmp_ge 31 dX4_begin_15 (by decide) (fun h15 => ?_) (fun h15 => ?_)
    · skip
      refine st_return dX4_begin_31 rfl ⟨rfl, rfl⟩
    · skip
      exact absurd h15 (by omega)
  | succ m ih =>
    intro c hn
    refine st_iload_n dX4_begin_12 rfl ?_
    refine st_bipush dX4_begin_13 (by decide) ?_
    refine st_icmp_ge 31 dX4_begin_15 (by decide) (fun h15 => ?_) (fun h15 => ?_)
    · skip
      exact absurd h15 (by omega)
    · skip
      refine st_aload_n dX4_begin_18 rfl ?_
      refine st_getr (i' := i) dX4_begin_19 fl_X4_18 rfl rfl rfl (fun h => h) ?_
      refine st_iload_n dX4_begin_22 rfl ?_
      refine st_lconst0 dX4_begin_23 ?_
      refine st_last (j := c) dX4_begin_24 rfl rfl rfl rfl (by omega) ?_
      refine fAt_m (M' := shB M i la n (c + 1)) (by funext k a b; simp only [fup, shB]; grind (splits := 30)) ?_
      refine st_iinc (ls' := [some (vr 20 i), some (vi la), some (vi n), some (vi ((c : Int) + 1))]) dX4_begin_25 rfl (by omega) (by decide) rfl rfl ?_
      refine st_goto 12 dX4_begin_28 (by decide) ?_
      exact ih (c + 1) (by omega)
set_option maxHeartbeats 4000000 in
set_option maxRecDepth 100000 in
theorem c_begin {g : fG} {M : fM} {i : Nat} {la n : Int} :
    fCv g Y_X4_begin [vr 20 i, vi la, vi n] M (fun M' => M' = shB M i la n 24) := by
  refine fCv_of _ [some (vr 20 i), some (vi la), some (vi n), none] (by decide) (Nat.le_of_ble_eq_true rfl) rfl (fun h => h) ?_
  refine st_aload_n dX4_begin_0 rfl ?_
  refine st_iload_n dX4_begin_1 rfl ?_
  refine st_put dX4_begin_2 fl_X4_11 fp_X4_0.1 (Or.inl fp_X4_0.2) rfl rfl rfl ?_
  refine st_aload_n dX4_begin_5 rfl ?_
  refine st_iload_n dX4_begin_6 rfl ?_
  refine st_put dX4_begin_7 fl_X4_15 fp_X4_1.1 (Or.inl fp_X4_1.2) rfl rfl rfl ?_
  refine st_iconst dX4_begin_10 (by decide) ?_
  refine st_istore_n (ls' := [some (vr 20 i), some (vi la), some (vi n), some (vi 0)]) dX4_begin_11 (by decide) rfl rfl ?_
  refine fAt_m (M' := shB M i la n 0) (by funext k a b; simp only [fup, shB]; grind (splits := 30)) ?_
  exact begin_l 24 0 (by omega)
