/-! ===== odds, in the class ===== -/
theorem cn_lo {lo : Nat} {L : Nat → Int} : ∀ {k : Nat}, k ≤ lo → cn lo L k = 0
  | 0, _ => rfl
  | k + 1, h => by
    unfold cn
    rw [if_neg (by omega)]
    exact cn_lo (by omega)
theorem cn_y {lo : Nat} {L : Nat → Int} {k : Nat} (h : lo ≤ k) (h2 : L k ≠ 0) : cn lo L (k + 1) = cn lo L k + 1 := by
  show (if lo ≤ k ∧ L k ≠ 0 then _ else _) = _
  rw [if_pos ⟨h, h2⟩]
theorem cn_n {lo : Nat} {L : Nat → Int} {k : Nat} (h2 : L k = 0) : cn lo L (k + 1) = cn lo L k := by
  show (if lo ≤ k ∧ L k ≠ 0 then _ else _) = _
  rw [if_neg (fun q => q.2 h2)]
theorem p10r {x : Int} {e : Nat} (hx : 0 ≤ x ∧ x ≤ 10) (he : e ≤ 11) : R64 (x ^ e) := by
  have h := pow_b10 hx (n := e)
  have h2 : (10 : Nat) ^ e ≤ 10 ^ 11 := Nat.pow_le_pow_right (by decide) he
  have h3 : ((10 ^ e : Nat) : Int) = (10 : Int) ^ e := by rw [Int.natCast_pow]; rfl
  have h4 : (10 : Nat) ^ 11 = 100000000000 := by decide
  omega
set_option maxHeartbeats 4000000 in
set_option maxRecDepth 100000 in
theorem isOf_l {g : fG} {M : fM} {w : Nat} {p : Int} (hw : M 2 0 0 = (w : Int)) (hw1 : 1 ≤ w ∧ w ≤ 6) (h1 : p = M 13 0 3) (h2 : M 2 0 0 = M 2 20 0) (h3 : M 2 0 1 = M 2 20 1) :
    ∀ (n : Nat) (c : Nat), c + n = 2 * w - 1 → (∀ j, j < c → M 3 0 j = M 3 20 j) → fAt g Y_X5_isOf 40 [some (vr 13 0), some (vr 2 0), some (vi p), some (vi (c : Int))] [] M (fI (fun z M' => ((z = 1 ∧ p = M 13 0 3 ∧ M 2 0 0 = M 2 20 0 ∧ M 2 0 1 = M 2 20 1 ∧ ∀ j, j < 2 * w - 1 → M 3 0 j = M 3 20 j) ∨ z = 0) ∧ M' = M)) := by
  intro n
  induction n with
  | zero =>
    intro c hm h0
    refine st_iload_n dX5_isOf_40 rfl ?_
    refine st_aload_n dX5_isOf_41 rfl ?_
    refine st_callVi [] [vi (c : Int)] dX5_isOf_42 vl_X5_39 rfl rfl rfl rfl (Nat.le_of_ble_eq_true rfl) (by decide) (c_rowLength hw hw1) (fun zl Ml ql => ?_)
    obtain ⟨rfl, q⟩ := ql
    subst Ml
    refine st_icmp_ge 74 dX5_isOf_45 (by decide) (fun h45 => ?_) (fun h45 => ?_)
    · skip
      refine st_iconst dX5_isOf_74 (by decide) ?_
      refine st_zreturn dX5_isOf_75 rfl (by omega) ⟨_, rfl, ⟨Or.inl ⟨rfl, h1, h2, h3, fun j hj => h0 j (by omega)⟩, rfl⟩⟩
    · skip
      exact absurd h45 (by omega)
  | succ n ih =>
    intro c hm h0
    refine st_iload_n dX5_isOf_40 rfl ?_
    refine st_aload_n dX5_isOf_41 rfl ?_
    refine st_callVi [] [vi (c : Int)] dX5_isOf_42 vl_X5_39 rfl rfl rfl rfl (Nat.le_of_ble_eq_true rfl) (by decide) (c_rowLength hw hw1) (fun zl Ml ql => ?_)
    obtain ⟨rfl, q⟩ := ql
    subst Ml
    refine st_icmp_ge 74 dX5_isOf_45 (by decide) (fun h45 => ?_) (fun h45 => ?_)
    · skip
      exact absurd h45 (by omega)
    · skip
      refine st_aload_n dX5_isOf_48 rfl ?_
      refine st_getr (i' := 0) dX5_isOf_49 fl_X5_43 rfl rfl rfl (fun _ => by decide) ?_
      refine st_iload_n dX5_isOf_52 rfl ?_
      refine st_iald (j := c) dX5_isOf_53 rfl rfl rfl rfl (by omega) ?_
      refine st_aload_n dX5_isOf_54 rfl ?_
      refine st_getr (i' := 20) dX5_isOf_55 fl_X5_29 rfl rfl rfl (fun _ => by decide) ?_
      refine st_getr (i' := 20) dX5_isOf_58 fl_X5_43 rfl rfl rfl (fun _ => by decide) ?_
      refine st_iload_n dX5_isOf_61 rfl ?_
      refine st_iald (j := c) dX5_isOf_62 rfl rfl rfl rfl (by omega) ?_
      refine st_icmp_eq 68 dX5_isOf_63 (by decide) (fun h63 => ?_) (fun h63 => ?_)
      · skip
        refine st_iinc (ls' := [some (vr 13 0), some (vr 2 0), some (vi p), some (vi ((c : Int) + 1))]) dX5_isOf_68 rfl (by omega) (by decide) rfl rfl ?_
        refine st_goto 40 dX5_isOf_71 (by decide) ?_
        exact ih (c + 1) (by omega) (fun j hj => by
          by_cases e : j = c
          · rw [e]; exact h63
          · exact h0 j (by omega))
      · skip
        refine st_iconst dX5_isOf_66 (by decide) ?_
        refine st_zreturn dX5_isOf_67 rfl (by omega) ⟨_, rfl, ⟨Or.inr rfl, rfl⟩⟩
set_option maxHeartbeats 4000000 in
set_option maxRecDepth 100000 in
theorem c_isOf {g : fG} {M : fM} {w : Nat} {p : Int} (hw : M 2 0 0 = (w : Int)) (hw1 : 1 ≤ w ∧ w ≤ 6) :
    fCi g Y_X5_isOf [vr 13 0, vr 2 0, vi p] M (fun z M' => ((z = 1 ∧ p = M 13 0 3 ∧ M 2 0 0 = M 2 20 0 ∧ M 2 0 1 = M 2 20 1 ∧ ∀ j, j < 2 * w - 1 → M 3 0 j = M 3 20 j) ∨ z = 0) ∧ M' = M) := by
  refine fCi_of _ [some (vr 13 0), some (vr 2 0), some (vi p), none] (by decide) (Nat.le_of_ble_eq_true rfl) rfl (fun h => h) ?_
  refine st_iload_n dX5_isOf_0 rfl ?_
  refine st_aload_n dX5_isOf_1 rfl ?_
  refine st_get dX5_isOf_2 fl_X5_23 rfl rfl rfl ?_
  refine st_icmp_ne 36 dX5_isOf_5 (by decide) (fun h5 => ?_) (fun h5 => ?_)
  · skip
    refine st_iconst dX5_isOf_36 (by decide) ?_
    refine st_zreturn dX5_isOf_37 rfl (by omega) ⟨_, rfl, ⟨Or.inr rfl, rfl⟩⟩
  · skip
    refine st_aload_n dX5_isOf_8 rfl ?_
    refine st_get dX5_isOf_9 fl_X5_33 rfl rfl rfl ?_
    refine st_aload_n dX5_isOf_12 rfl ?_
    refine st_getr (i' := 20) dX5_isOf_13 fl_X5_29 rfl rfl rfl (fun _ => by decide) ?_
    refine st_get dX5_isOf_16 fl_X5_33 rfl rfl rfl ?_
    refine st_icmp_ne 36 dX5_isOf_19 (by decide) (fun h19 => ?_) (fun h19 => ?_)
    · skip
      refine st_iconst dX5_isOf_36 (by decide) ?_
      refine st_zreturn dX5_isOf_37 rfl (by omega) ⟨_, rfl, ⟨Or.inr rfl, rfl⟩⟩
    · skip
      refine st_aload_n dX5_isOf_22 rfl ?_
      refine st_get dX5_isOf_23 fl_X5_36 rfl rfl rfl ?_
      refine st_aload_n dX5_isOf_26 rfl ?_
      refine st_getr (i' := 20) dX5_isOf_27 fl_X5_29 rfl rfl rfl (fun _ => by decide) ?_
      refine st_get dX5_isOf_30 fl_X5_36 rfl rfl rfl ?_
      refine st_icmp_eq 38 dX5_isOf_33 (by decide) (fun h33 => ?_) (fun h33 => ?_)
      · skip
        refine st_iconst dX5_isOf_38 (by decide) ?_
        refine st_istore_n (ls' := [some (vr 13 0), some (vr 2 0), some (vi p), some (vi 0)]) dX5_isOf_39 (by decide) rfl rfl ?_
        exact isOf_l hw hw1 (by assumption) (by assumption) (by assumption) (2 * w - 1) 0 (by omega) (fun j hj => absurd hj (by omega))
      · skip
        refine st_iconst dX5_isOf_36 (by decide) ?_
        refine st_zreturn dX5_isOf_37 rfl (by omega) ⟨_, rfl, ⟨Or.inr rfl, rfl⟩⟩
/-- after places were told up to k -/
def bgP (B N : fM) (lo : Nat) (L : Nat → Int) (k : Nat) : Prop := (∀ kk a b, kk ≠ 15 → ¬ (kk = 13 ∧ b = 2) → N kk a b = B kk a b) ∧ N 13 0 2 = ((cn lo L k : Nat) : Int) ∧ ∀ j, j < k → lo ≤ j → L j ≠ 0 → N 15 0 (cn lo L j) = (j : Int)
theorem bgP_n {B N : fM} {lo : Nat} {L : Nat → Int} {k : Nat} (h : bgP B N lo L k) (h0 : L k = 0) : bgP B N lo L (k + 1) := by
  refine ⟨h.1, by rw [cn_n h0]; exact h.2.1, fun j hj h1 h2 => ?_⟩
  by_cases e : j = k
  · rw [e] at h2; exact absurd h0 h2
  · exact h.2.2 j (by omega) h1 h2
theorem bgP_y {B N : fM} {lo : Nat} {L : Nat → Int} {k : Nat} (h : bgP B N lo L k) (hl : lo ≤ k) (h0 : L k ≠ 0) : bgP B (fup (fup N 15 0 (cn lo L k) (k : Int)) 13 0 2 (((cn lo L k : Nat) : Int) + 1)) lo L (k + 1) := by
  refine ⟨fun kk a b q1 q2 => ?_, by rw [fup_eq, cn_y hl h0]; rfl, fun j hj h1 h2 => ?_⟩
  · rw [fup_ne (by omega), fup_ne (by omega)]
    exact h.1 kk a b q1 q2
  · rw [fup_ne (by omega)]
    by_cases e : j = k
    · rw [e, fup_eq]
    · have := cn_lt (show j < k by omega) ⟨h1, h2⟩
      rw [fup_ne (by omega)]
      exact h.2.2 j (by omega) h1 h2
/-- all that begin leaves -/
def bgS (M M' : fM) (w : Nat) (p : Int) : Prop := M' 13 0 3 = p ∧ M' 13 0 2 = ((cn (loK (M 2 0 1) w) (M 3 0) (2 * w - 1) : Nat) : Int) ∧ (∀ j, j < 2 * w - 1 → loK (M 2 0 1) w ≤ j → M 3 0 j ≠ 0 → M' 15 0 (cn (loK (M 2 0 1) w) (M 3 0) j) = (j : Int)) ∧ (∀ v, v < 12 → M' 14 0 v = 0) ∧ (M' 2 20 0 = M 2 0 0 ∧ M' 2 20 1 = M 2 0 1 ∧ ∀ j, j < 11 → M' 3 20 j = M 3 0 j) ∧ ∀ k a b, k ≠ 13 → k ≠ 14 → k ≠ 15 → ¬ ((k = 2 ∨ k = 3 ∨ k = 4) ∧ a = 20) → M' k a b = M k a b
def zrW (N : fM) (c : Nat) : fM := fun k a b => if k = 14 ∧ a = 0 ∧ b < c then 0 else N k a b
theorem zrW_s (N : fM) (c : Nat) : fup (zrW N c) 14 0 c 0 = zrW N (c + 1) := by
  funext k a b
  simp only [zrW, fup]
  grind (splits := 30)
theorem zrW_0 (N : fM) : zrW N 0 = N := by
  funext k a b
  unfold zrW
  rw [if_neg (by omega)]
set_option maxHeartbeats 4000000 in
set_option maxRecDepth 100000 in
theorem begin_z {g : fG} {M : fM} {p x : Int} :
    ∀ (n c : Nat), c + n = 12 → fAt g Y_X5_begin 104 [some (vr 13 0), some (vr 2 0), some (vi p), some (vi x), some (vi (c : Int))] [] (zrW M c) (fN (fun M' => M' = zrW M 12)) := by
  intro n
  induction n with
  | zero =>
    intro c hm
    refine st_iload dX5_begin_104 rfl ?_
    refine st_bipush dX5_begin_106 (by decide) ?_
    refine st_icmp_gt 125 dX5_begin_108 (by decide) (fun h108 => ?_) (fun h108 => ?_)
    · skip
      refine st_return dX5_begin_125 rfl ⟨rfl, (by rw [show c = 12 by omega])⟩
    · skip
      exact absurd h108 (by omega)
  | succ n ih =>
    intro c hm
    refine st_iload dX5_begin_104 rfl ?_
    refine st_bipush dX5_begin_106 (by decide) ?_
    refine st_icmp_gt 125 dX5_begin_108 (by decide) (fun h108 => ?_) (fun h108 => ?_)
    · skip
      exact absurd h108 (by omega)
    · skip
      refine st_aload_n dX5_begin_111 rfl ?_
      refine st_getr (i' := 0) dX5_begin_112 fl_X5_9 rfl rfl rfl (fun _ => by decide) ?_
      refine st_iload dX5_begin_115 rfl ?_
      refine st_lconst0 dX5_begin_117 ?_
      refine st_last (j := c) dX5_begin_118 rfl rfl rfl rfl (by omega) ?_
      refine fAt_m (zrW_s M c) ?_
      refine st_iinc (ls' := [some (vr 13 0), some (vr 2 0), some (vi p), some (vi x), some (vi ((c : Int) + 1))]) dX5_begin_119 rfl (by omega) (by decide) rfl rfl ?_
      refine st_goto 104 dX5_begin_122 (by decide) ?_
      exact ih (c + 1) (by omega)
set_option maxHeartbeats 4000000 in
set_option maxRecDepth 100000 in
theorem begin_p {g : fG} {M : fM} {w lo : Nat} {p x : Int} (hw : M 2 0 0 = (w : Int)) (hw1 : 1 ≤ w ∧ w ≤ 6) :
    ∀ (n : Nat) (k : Nat) (Nn : fM), k + n = 2 * w - 1 → lo ≤ k → bgP M Nn lo (M 3 0) k → fAt g Y_X5_begin 55 [some (vr 13 0), some (vr 2 0), some (vi p), some (vi x), some (vi (k : Int))] [] Nn (fN (fun M' => ∃ Nn, bgP M Nn lo (M 3 0) (2 * w - 1) ∧ M' = zrW Nn 12)) := by
  intro n
  induction n with
  | zero =>
    intro k Nn hm hlk hN
    refine st_iload dX5_begin_55 rfl ?_
    refine st_aload_n dX5_begin_57 rfl ?_
    refine st_callVi [] [vi (k : Int)] dX5_begin_58 vl_X5_39 rfl rfl rfl rfl (Nat.le_of_ble_eq_true rfl) (by decide) (c_rowLength (w := w) ((hN.1 2 0 0 (by decide) (by omega)).trans hw) hw1) (fun zl Ml ql => ?_)
    obtain ⟨rfl, q⟩ := ql
    subst Ml
    refine st_icmp_ge 101 dX5_begin_61 (by decide) (fun h61 => ?_) (fun h61 => ?_)
    · skip
      refine st_iconst dX5_begin_101 (by decide) ?_
      refine st_istore (ls' := [some (vr 13 0), some (vr 2 0), some (vi p), some (vi x), some (vi 0)]) dX5_begin_102 (by decide) rfl rfl ?_
      refine fAt_m (zrW_0 Nn).symm ?_
      refine fAt_q (fun r M' h => ?_) (begin_z 12 0 (by omega))
      exact ⟨h.1, Nn, by rw [show 2 * w - 1 = k by omega]; exact hN, h.2⟩
    · skip
      exact absurd h61 (by omega)
  | succ n ih =>
    intro k Nn hm hlk hN
    refine st_iload dX5_begin_55 rfl ?_
    refine st_aload_n dX5_begin_57 rfl ?_
    refine st_callVi [] [vi (k : Int)] dX5_begin_58 vl_X5_39 rfl rfl rfl rfl (Nat.le_of_ble_eq_true rfl) (by decide) (c_rowLength (w := w) ((hN.1 2 0 0 (by decide) (by omega)).trans hw) hw1) (fun zl Ml ql => ?_)
    obtain ⟨rfl, q⟩ := ql
    subst Ml
    refine st_icmp_ge 101 dX5_begin_61 (by decide) (fun h61 => ?_) (fun h61 => ?_)
    · skip
      exact absurd h61 (by omega)
    · skip
      refine st_aload_n dX5_begin_64 rfl ?_
      refine st_getr (i' := 0) dX5_begin_65 fl_X5_43 rfl rfl rfl (fun _ => by decide) ?_
      refine st_iload dX5_begin_68 rfl ?_
      refine st_iald (j := k) dX5_begin_70 rfl rfl rfl rfl (by omega) ?_
      refine fAt_v (x' := M 3 0 k) (hN.1 3 0 k (by decide) (by omega)) ?_
      have hck := cn_le lo (M 3 0) k
      refine st_if_eq 95 dX5_begin_71 (by decide) (fun h71 => ?_) (fun h71 => ?_)
      · skip
        refine st_iinc (ls' := [some (vr 13 0), some (vr 2 0), some (vi p), some (vi x), some (vi ((k : Int) + 1))]) dX5_begin_95 rfl (by omega) (by decide) rfl rfl ?_
        refine st_goto 55 dX5_begin_98 (by decide) ?_
        first
        | exact ih (k + 1) _ (by omega) (by omega) (bgP_y hN hlk h71)
        | exact ih (k + 1) _ (by omega) (by omega) (bgP_n hN h71)
      · skip
        refine st_aload_n dX5_begin_74 rfl ?_
        refine st_getr (i' := 0) dX5_begin_75 fl_X5_15 rfl rfl rfl (fun _ => by decide) ?_
        refine st_aload_n dX5_begin_78 rfl ?_
        refine st_get dX5_begin_79 fl_X5_19 rfl rfl rfl ?_
        refine fAt_v (x' := ((cn lo (M 3 0) k : Nat) : Int)) hN.2.1 ?_
        refine st_iload dX5_begin_82 rfl ?_
        refine st_iast (j := (cn lo (M 3 0) k)) dX5_begin_84 rfl rfl rfl rfl (by omega) ?_
        refine st_aload_n dX5_begin_85 rfl ?_
        refine st_dup dX5_begin_86 rfl ?_
        refine st_get dX5_begin_87 fl_X5_19 rfl rfl rfl ?_
        refine fAt_v (x' := ((cn lo (M 3 0) k : Nat) : Int)) ((fup_ne (by omega)).trans hN.2.1) ?_
        refine st_iconst dX5_begin_90 (by decide) ?_
        refine st_iadd dX5_begin_91 (by omega) ?_
        refine st_put dX5_begin_92 fl_X5_19 fp_X5_2.1 (Or.inl fp_X5_2.2) rfl rfl rfl ?_
        refine st_iinc (ls' := [some (vr 13 0), some (vr 2 0), some (vi p), some (vi x), some (vi ((k : Int) + 1))]) dX5_begin_95 rfl (by omega) (by decide) rfl rfl ?_
        refine st_goto 55 dX5_begin_98 (by decide) ?_
        first
        | exact ih (k + 1) _ (by omega) (by omega) (bgP_y hN hlk h71)
        | exact ih (k + 1) _ (by omega) (by omega) (bgP_n hN h71)
theorem bgS_of {M Nn M' : fM} {w : Nat} {p : Int} (h2 : bgP (fup (stk (fup M 13 0 3 p) 20 0) 13 0 2 0) Nn (loK (M 2 0 1) w) (fup (stk (fup M 13 0 3 p) 20 0) 13 0 2 0 3 0) (2 * w - 1)) (h3 : M' = zrW Nn 12) : bgS M M' w p := by
  have e30 : fup (stk (fup M 13 0 3 p) 20 0) 13 0 2 0 3 0 = M 3 0 := by
    funext b
    rw [fup_ne (by omega), stk_off (by omega), fup_ne (by omega)]
  rw [e30] at h2
  have hz : ∀ k a b, k ≠ 14 → M' k a b = Nn k a b := fun k a b hk => by
    rw [h3]; unfold zrW; rw [if_neg (by omega)]
  refine ⟨?_, ?_, fun j hj h1 h0 => ?_, fun v hv => ?_, ⟨?_, ?_, fun j hj => ?_⟩, fun k a b q1 q2 q3 q4 => ?_⟩
  · rw [hz _ _ _ (by decide), h2.1 _ _ _ (by decide) (by omega), fup_ne (by omega), stk_off (by omega), fup_eq]
  · rw [hz _ _ _ (by decide)]; exact h2.2.1
  · rw [hz _ _ _ (by decide)]; exact h2.2.2 j hj h1 h0
  · rw [h3]; unfold zrW; rw [if_pos ⟨rfl, rfl, hv⟩]
  · rw [hz _ _ _ (by decide), h2.1 _ _ _ (by decide) (by omega), fup_ne (by omega)]; unfold stk; rw [if_pos (by omega), fup_ne (by omega)]
  · rw [hz _ _ _ (by decide), h2.1 _ _ _ (by decide) (by omega), fup_ne (by omega)]; unfold stk; rw [if_pos (by omega), fup_ne (by omega)]
  · rw [hz _ _ _ (by decide), h2.1 _ _ _ (by decide) (by omega), fup_ne (by omega)]; unfold stk; rw [if_pos (by omega), fup_ne (by omega)]
  · rw [hz _ _ _ q2, h2.1 _ _ _ q3 (by omega), fup_ne (by omega), stk_off (by omega), fup_ne (by omega)]
set_option maxHeartbeats 4000000 in
set_option maxRecDepth 100000 in
theorem c_begin2 {g : fG} {M : fM} {w : Nat} {p : Int} (hw : M 2 0 0 = (w : Int)) (hw1 : 1 ≤ w ∧ w ≤ 6) (hkd : 0 ≤ M 2 0 1 ∧ M 2 0 1 ≤ 4) :
    fCv g Y_X5_begin [vr 13 0, vr 2 0, vi p] M (fun M' => bgS M M' w p) := by
  refine fCv_of _ [some (vr 13 0), some (vr 2 0), some (vi p), none, none] (by decide) (Nat.le_of_ble_eq_true rfl) rfl (fun h => h) ?_
  refine st_aload_n dX5_begin_0 rfl ?_
  refine st_iload_n dX5_begin_1 rfl ?_
  refine st_put dX5_begin_2 fl_X5_23 fp_X5_3.1 (Or.inl fp_X5_3.2) rfl rfl rfl ?_
  refine st_aload_n dX5_begin_5 rfl ?_
  refine st_getr (i' := 20) dX5_begin_6 fl_X5_29 rfl rfl rfl (fun _ => by decide) ?_
  refine st_aload_n dX5_begin_9 rfl ?_
  refine st_callVv [vr 2 0] [] dX5_begin_10 vl_X5_46 rfl rfl rfl rfl (Nat.le_of_ble_eq_true rfl) (by decide) (c_takeFrom (by decide)) (fun Ma qa => ?_)
  subst qa
  refine st_aload_n dX5_begin_13 rfl ?_
  refine st_iconst dX5_begin_14 (by decide) ?_
  refine st_put dX5_begin_15 fl_X5_19 fp_X5_2.1 (Or.inl fp_X5_2.2) rfl rfl rfl ?_
  refine st_aload_n dX5_begin_18 rfl ?_
  refine st_get dX5_begin_19 fl_X5_36 rfl rfl rfl ?_
  refine fAt_v (x' := M 2 0 1) (by rw [fup_ne (by omega), stk_off (by omega), fup_ne (by omega)]) ?_
  refine st_if_eq 33 dX5_begin_22 (by decide) (fun h22 => ?_) (fun h22 => ?_)
  · skip
    refine st_iconst dX5_begin_33 (by decide) ?_
    refine st_goto 38 dX5_begin_34 (by decide) ?_
    refine st_istore_n (ls' := [some (vr 13 0), some (vr 2 0), some (vi p), some (vi 1), none]) dX5_begin_38 (by decide) rfl rfl ?_
    refine st_iload_n dX5_begin_39 rfl ?_
    refine st_if_eq 47 dX5_begin_40 (by decide) (fun h40 => ?_) (fun h40 => ?_)
    · skip
      exact absurd h40 (by decide)
    · skip
      refine st_iconst dX5_begin_43 (by decide) ?_
      refine st_goto 53 dX5_begin_44 (by decide) ?_
      refine st_istore (ls' := [some (vr 13 0), some (vr 2 0), some (vi p), some (vi 1), some (vi 0)]) dX5_begin_53 (by decide) rfl rfl ?_
      have hlk : loK (M 2 0 1) w = 0 := by unfold loK; rw [if_pos (by omega)]
      refine fAt_ls (ls' := [some (vr 13 0), some (vr 2 0), some (vi p), some (vi 1), some (vi ((loK (M 2 0 1) w : Nat) : Int))]) (by rw [show ((loK (M 2 0 1) w : Nat) : Int) = 0 by omega]) ?_
      refine fAt_q (fun r M' h => ?_) (begin_p (M := fup (stk (fup M 13 0 3 p) 20 0) 13 0 2 0) (w := w) (lo := loK (M 2 0 1) w) (by rw [fup_ne (by omega), stk_off (by omega), fup_ne (by omega)]; exact hw) hw1 (2 * w - 1 - loK (M 2 0 1) w) (loK (M 2 0 1) w) _ (by unfold loK; split <;> omega) (Nat.le_refl _) ⟨fun _ _ _ _ _ => rfl, by rw [cn_lo (Nat.le_refl _)]; exact fup_eq, fun j hj h1 => absurd h1 (by omega)⟩)
      obtain ⟨h1, Nn, h2, h3⟩ := h
      refine ⟨h1, ?_⟩
      exact bgS_of h2 h3
  · skip
    refine st_aload_n dX5_begin_25 rfl ?_
    refine st_get dX5_begin_26 fl_X5_36 rfl rfl rfl ?_
    refine fAt_v (x' := M 2 0 1) (by rw [fup_ne (by omega), stk_off (by omega), fup_ne (by omega)]) ?_
    refine st_iconst dX5_begin_29 (by decide) ?_
    refine st_icmp_ne 37 dX5_begin_30 (by decide) (fun h30 => ?_) (fun h30 => ?_)
    · skip
      refine st_iconst dX5_begin_37 (by decide) ?_
      refine st_istore_n (ls' := [some (vr 13 0), some (vr 2 0), some (vi p), some (vi 0), none]) dX5_begin_38 (by decide) rfl rfl ?_
      refine st_iload_n dX5_begin_39 rfl ?_
      refine st_if_eq 47 dX5_begin_40 (by decide) (fun h40 => ?_) (fun h40 => ?_)
      · skip
        refine st_aload_n dX5_begin_47 rfl ?_
        refine st_get dX5_begin_48 fl_X5_33 rfl rfl rfl ?_
        refine fAt_v (x' := (w : Int)) (by rw [fup_ne (by omega), stk_off (by omega), fup_ne (by omega)]; exact hw) ?_
        refine st_iconst dX5_begin_51 (by decide) ?_
        refine st_isub dX5_begin_52 (by omega) ?_
        refine st_istore (ls' := [some (vr 13 0), some (vr 2 0), some (vi p), some (vi 0), some (vi ((w : Int) - 1))]) dX5_begin_53 (by decide) rfl rfl ?_
        have hlk : loK (M 2 0 1) w = w - 1 := by unfold loK; rw [if_neg (by omega)]
        refine fAt_ls (ls' := [some (vr 13 0), some (vr 2 0), some (vi p), some (vi 0), some (vi ((loK (M 2 0 1) w : Nat) : Int))]) (by rw [show ((loK (M 2 0 1) w : Nat) : Int) = ((w : Int) - 1) by omega]) ?_
        refine fAt_q (fun r M' h => ?_) (begin_p (M := fup (stk (fup M 13 0 3 p) 20 0) 13 0 2 0) (w := w) (lo := loK (M 2 0 1) w) (by rw [fup_ne (by omega), stk_off (by omega), fup_ne (by omega)]; exact hw) hw1 (2 * w - 1 - loK (M 2 0 1) w) (loK (M 2 0 1) w) _ (by unfold loK; split <;> omega) (Nat.le_refl _) ⟨fun _ _ _ _ _ => rfl, by rw [cn_lo (Nat.le_refl _)]; exact fup_eq, fun j hj h1 => absurd h1 (by omega)⟩)
        obtain ⟨h1, Nn, h2, h3⟩ := h
        refine ⟨h1, ?_⟩
        exact bgS_of h2 h3
      · skip
        exact absurd rfl h40
    · skip
      refine st_iconst dX5_begin_33 (by decide) ?_
      refine st_goto 38 dX5_begin_34 (by decide) ?_
      refine st_istore_n (ls' := [some (vr 13 0), some (vr 2 0), some (vi p), some (vi 1), none]) dX5_begin_38 (by decide) rfl rfl ?_
      refine st_iload_n dX5_begin_39 rfl ?_
      refine st_if_eq 47 dX5_begin_40 (by decide) (fun h40 => ?_) (fun h40 => ?_)
      · skip
        exact absurd h40 (by decide)
      · skip
        refine st_iconst dX5_begin_43 (by decide) ?_
        refine st_goto 53 dX5_begin_44 (by decide) ?_
        refine st_istore (ls' := [some (vr 13 0), some (vr 2 0), some (vi p), some (vi 1), some (vi 0)]) dX5_begin_53 (by decide) rfl rfl ?_
        have hlk : loK (M 2 0 1) w = 0 := by unfold loK; rw [if_pos (by omega)]
        refine fAt_ls (ls' := [some (vr 13 0), some (vr 2 0), some (vi p), some (vi 1), some (vi ((loK (M 2 0 1) w : Nat) : Int))]) (by rw [show ((loK (M 2 0 1) w : Nat) : Int) = 0 by omega]) ?_
        refine fAt_q (fun r M' h => ?_) (begin_p (M := fup (stk (fup M 13 0 3 p) 20 0) 13 0 2 0) (w := w) (lo := loK (M 2 0 1) w) (by rw [fup_ne (by omega), stk_off (by omega), fup_ne (by omega)]; exact hw) hw1 (2 * w - 1 - loK (M 2 0 1) w) (loK (M 2 0 1) w) _ (by unfold loK; split <;> omega) (Nat.le_refl _) ⟨fun _ _ _ _ _ => rfl, by rw [cn_lo (Nat.le_refl _)]; exact fup_eq, fun j hj h1 => absurd h1 (by omega)⟩)
        obtain ⟨h1, Nn, h2, h3⟩ := h
        refine ⟨h1, ?_⟩
        exact bgS_of h2 h3
def wTm (Zn : Nat → Nat) (c l v : Nat) : Nat := Zn v * (c ^ v * (10 - c) ^ (l - v))
theorem wTm_b {Zn : Nat → Nat} {c l v : Nat} (hc : c ≤ 10) (hl : l ≤ 11) (hv : v ≤ l) (hz : Zn v ≤ 2048) : Zn v * c ^ v ≤ 204800000000000 ∧ wTm Zn c l v ≤ 204800000000000 := by
  have h1 : c ^ v ≤ 10 ^ v := Nat.pow_le_pow_left hc v
  have h2 : (10 - c) ^ (l - v) ≤ 10 ^ (l - v) := Nat.pow_le_pow_left (by omega) _
  have h3 : (10 : Nat) ^ v ≤ 10 ^ 11 := Nat.pow_le_pow_right (by decide) (by omega)
  have h4 : (10 : Nat) ^ l ≤ 10 ^ 11 := Nat.pow_le_pow_right (by decide) (by omega)
  have h5 : (10 : Nat) ^ v * 10 ^ (l - v) = 10 ^ l := by rw [← Nat.pow_add]; congr 1; omega
  have h6 := Nat.mul_le_mul h1 h2
  rw [h5] at h6
  have h7 : (10 : Nat) ^ 11 = 100000000000 := by decide
  constructor
  · have := Nat.mul_le_mul hz (show c ^ v ≤ 100000000000 by omega)
    omega
  · have := Nat.mul_le_mul hz (show c ^ v * (10 - c) ^ (l - v) ≤ 100000000000 by omega)
    unfold wTm
    omega
theorem wTm_i {Zn : Nat → Nat} {c l v : Nat} (hc : c ≤ 10) : ((Zn v : Nat) : Int) * (c : Int) ^ v = ((Zn v * c ^ v : Nat) : Int) ∧ ((Zn v : Nat) : Int) * (c : Int) ^ v * (10 - (c : Int)) ^ (l - v) = ((wTm Zn c l v : Nat) : Int) := by
  have e : (10 - (c : Int)) = ((10 - c : Nat) : Int) := by omega
  constructor
  · rw [Int.natCast_mul, Int.natCast_pow]
  · unfold wTm
    rw [e, Int.natCast_mul, Int.natCast_mul, Int.natCast_pow, Int.natCast_pow, Int.mul_assoc]
set_option maxHeartbeats 4000000 in
set_option maxRecDepth 100000 in
theorem weighted_l {g : fG} {M : fM} {c l : Nat} {Zn : Nat → Nat} (hc : c ≤ 10) (hl11 : l ≤ 11) (hlv : M 13 0 2 = (l : Int)) (hZ : ∀ v, v ≤ l → M 14 0 v = ((Zn v : Nat) : Int) ∧ Zn v ≤ 2048) :
    ∀ (n v : Nat), v + n = l + 1 → fAt g Y_X5_weighted 5 [some (vr 13 0), some (vi (c : Int)), some (vl ((sN v (wTm Zn c l) : Nat) : Int)), none, some (vi (v : Int))] [] M (fL (fun z M' => z = ((sN (l + 1) (wTm Zn c l) : Nat) : Int) ∧ M' = M)) := by
  intro n
  induction n with
  | zero =>
    intro v hm
    refine st_iload dX5_weighted_5 rfl ?_
    refine st_aload_n dX5_weighted_7 rfl ?_
    refine st_get dX5_weighted_8 fl_X5_19 rfl rfl rfl ?_
    refine fAt_v (x' := (l : Int)) hlv ?_
    refine st_icmp_gt 54 dX5_weighted_11 (by decide) (fun h11 => ?_) (fun h11 => ?_)
    · skip
      refine st_lload_n dX5_weighted_54 rfl ?_
      refine st_lreturn dX5_weighted_55 rfl ⟨_, rfl, ⟨by rw [show l + 1 = v by omega], rfl⟩⟩
    · skip
      exact absurd h11 (by omega)
  | succ n ih =>
    intro v hm
    refine st_iload dX5_weighted_5 rfl ?_
    refine st_aload_n dX5_weighted_7 rfl ?_
    refine st_get dX5_weighted_8 fl_X5_19 rfl rfl rfl ?_
    refine fAt_v (x' := (l : Int)) hlv ?_
    refine st_icmp_gt 54 dX5_weighted_11 (by decide) (fun h11 => ?_) (fun h11 => ?_)
    · skip
      exact absurd h11 (by omega)
    · skip
      have hb := wTm_b (Zn := Zn) hc hl11 (show v ≤ l by omega) (hZ v (by omega)).2
      have hi := wTm_i (Zn := Zn) (l := l) (v := v) hc
      have hs := sN_le (g := wTm Zn c l) (B := 204800000000000) (n := v) (fun i hi => (wTm_b hc hl11 (by omega) (hZ i (by omega)).2).2)
      have hs2 : v * 204800000000000 ≤ 12 * 204800000000000 := Nat.mul_le_mul_right _ (by omega)
      refine st_lload_n dX5_weighted_14 rfl ?_
      refine st_aload_n dX5_weighted_15 rfl ?_
      refine st_getr (i' := 0) dX5_weighted_16 fl_X5_9 rfl rfl rfl (fun _ => by decide) ?_
      refine st_iload dX5_weighted_19 rfl ?_
      refine st_lald (j := v) dX5_weighted_21 rfl rfl rfl rfl (by omega) ?_
      refine fAt_vl (x' := ((Zn v : Nat) : Int)) (hZ v (by omega)).1 ?_
      refine st_iload_n dX5_weighted_22 rfl ?_
      refine st_i2l dX5_weighted_23 ?_
      refine st_iload dX5_weighted_24 rfl ?_
      refine st_callNl [vl (c : Int), vi (v : Int)] [vl ((Zn v : Nat) : Int), vl ((sN v (wTm Zn c l) : Nat) : Int)] dX5_weighted_26 nl_X5_50 rfl rfl (Nat.le_of_ble_eq_true rfl) (by decide) (c_power (x := (c : Int)) (n := v) (by omega) (fun e he => p10r (by omega) (by omega))) (fun z1 M1 q1 => ?_)
      obtain ⟨rfl, q⟩ := q1
      subst M1
      refine st_lmul dX5_weighted_29 (by rw [hi.1]; omega) ?_
      refine st_bipush dX5_weighted_30 (by decide) ?_
      refine st_iload_n dX5_weighted_32 rfl ?_
      refine st_isub dX5_weighted_33 (by omega) ?_
      refine st_i2l dX5_weighted_34 ?_
      refine st_aload_n dX5_weighted_35 rfl ?_
      refine st_get dX5_weighted_36 fl_X5_19 rfl rfl rfl ?_
      refine fAt_v (x' := (l : Int)) hlv ?_
      refine st_iload dX5_weighted_39 rfl ?_
      refine st_isub dX5_weighted_41 (by omega) ?_
      refine fAt_v (x' := ((l - v : Nat) : Int)) (by omega) ?_
      refine st_callNl [vl (10 - (c : Int)), vi (((l - v) : Nat) : Int)] [vl (((Zn v : Nat) : Int) * ((c : Int) ^ v)), vl ((sN v (wTm Zn c l) : Nat) : Int)] dX5_weighted_42 nl_X5_50 rfl rfl (Nat.le_of_ble_eq_true rfl) (by decide) (c_power (x := 10 - (c : Int)) (n := l - v) (by omega) (fun e he => p10r (by omega) (by omega))) (fun z2 M2 q2 => ?_)
      obtain ⟨rfl, q⟩ := q2
      subst M2
      refine st_lmul dX5_weighted_45 (by rw [hi.2]; omega) ?_
      refine st_ladd dX5_weighted_46 (by rw [hi.2]; omega) ?_
      refine fAt_vl (x' := ((sN (v + 1) (wTm Zn c l) : Nat) : Int)) (by rw [hi.2]; rfl) ?_
      refine st_lstore_n (ls' := [some (vr 13 0), some (vi (c : Int)), some (vl ((sN (v + 1) (wTm Zn c l) : Nat) : Int)), none, some (vi (v : Int))]) dX5_weighted_47 (by decide) rfl rfl ?_
      refine st_iinc (ls' := [some (vr 13 0), some (vi (c : Int)), some (vl ((sN (v + 1) (wTm Zn c l) : Nat) : Int)), none, some (vi ((v : Int) + 1))]) dX5_weighted_48 rfl (by omega) (by decide) rfl rfl ?_
      refine st_goto 5 dX5_weighted_51 (by decide) ?_
      exact ih (v + 1) (by omega)
set_option maxHeartbeats 4000000 in
set_option maxRecDepth 100000 in
theorem c_weighted {g : fG} {M : fM} {c l : Nat} {Zn : Nat → Nat} (hc : c ≤ 10) (hl11 : l ≤ 11) (hlv : M 13 0 2 = (l : Int)) (hZ : ∀ v, v ≤ l → M 14 0 v = ((Zn v : Nat) : Int) ∧ Zn v ≤ 2048) :
    fCl g Y_X5_weighted [vr 13 0, vi (c : Int)] M (fun z M' => z = ((sN (l + 1) (wTm Zn c l) : Nat) : Int) ∧ M' = M) := by
  refine fCl_of _ [some (vr 13 0), some (vi (c : Int)), none, none, none] (by decide) (Nat.le_of_ble_eq_true rfl) rfl (fun h => h) ?_
  refine st_lconst0 dX5_weighted_0 ?_
  refine st_lstore_n (ls' := [some (vr 13 0), some (vi (c : Int)), some (vl 0), none, none]) dX5_weighted_1 (by decide) rfl rfl ?_
  refine st_iconst dX5_weighted_2 (by decide) ?_
  refine st_istore (ls' := [some (vr 13 0), some (vi (c : Int)), some (vl 0), none, some (vi 0)]) dX5_weighted_3 (by decide) rfl rfl ?_
  exact weighted_l hc hl11 hlv hZ (l + 1) 0 (by omega)
