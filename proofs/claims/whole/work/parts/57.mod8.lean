/-! ===== the reference: texts ===== -/
def mP (M : fM) (q : Nat) : fM := fup M 22 0 6 (q : Int)
theorem mP_p (M : fM) (q q' : Nat) : fup (mP M q) 22 0 6 (q' : Int) = mP M q' := by
  funext a b c
  simp only [mP, fup]
  grind (splits := 30)
theorem mP_r (M : fM) (q : Nat) : mP M q 22 0 6 = (q : Int) := fup_eq
theorem mP_ne {M : fM} {q k a b : Nat} (h : ¬ (k = 22 ∧ a = 0 ∧ b = 6)) : mP M q k a b = M k a b := fup_ne h
theorem mP_w (M : fM) (q : Nat) (k i j : Nat) (x : Int) (h : k ≠ 22) : fup (mP M q) k i j x = mP (fup M k i j x) q := by
  funext a b c
  simp only [mP, fup]
  grind (splits := 30)
theorem lr_D {tp : Nat → Int} {n q : Nat} : (48 ≤ lr tp n q 0 ∧ lr tp n q 0 ≤ 57) ↔ isD tp n q := by
  unfold lr
  split
  · rename_i h; exact ⟨fun k => ⟨h, k⟩, fun k => k.2⟩
  · rename_i h; exact ⟨fun k => absurd k.1 (by decide), fun k => absurd k.1 h⟩
theorem lr_z {tp : Nat → Int} {n q : Nat} (hT : ∀ b, b < n → 0 < tp b) : lr tp n q 0 = 0 ↔ ¬ q < n := by
  unfold lr
  split
  · rename_i h
    have := hT q h
    exact ⟨fun k => absurd k (by omega), fun k => absurd h k⟩
  · rename_i h
    exact ⟨fun _ => h, fun _ => rfl⟩
theorem kb_0 {tp : Nat → Int} {n q : Nat} : kb (lr tp n q 0) = kb (lr tp n q (-1)) := by
  unfold lr
  split
  · rfl
  · rfl
theorem sk_D {tp : Nat → Int} {n x : Nat} (h : isD tp n x) : sk tp n x = x := sk_stop (by omega)
def rwV (N : fM) (o c : Nat) (f : Nat → Int) : fM := fun kk a b => if kk = 27 ∧ a = 0 ∧ o ≤ b ∧ b < o + c then f (b - o) else N kk a b
theorem rwV_s (N : fM) (o c : Nat) (f h : Nat → Int) (e : ∀ i, f (i + 1) = h i) : rwV (fup N 27 0 o (f 0)) (o + 1) c h = rwV N o (c + 1) f := by
  funext kk a b
  simp only [rwV, fup]
  by_cases e1 : kk = 27 ∧ a = 0 ∧ o + 1 ≤ b ∧ b < o + 1 + c
  · rw [if_pos e1, if_pos (by omega), ← e, show b - (o + 1) + 1 = b - o by omega]
  · rw [if_neg e1]
    by_cases e2 : kk = 27 ∧ a = 0 ∧ b = o
    · rw [if_pos e2, if_pos (by omega), e2.2.2, Nat.sub_self]
    · rw [if_neg e2, if_neg (by omega)]
theorem rwV_1 (N : fM) (o : Nat) (f : Nat → Int) : fup N 27 0 o (f 0) = rwV N o 1 f := by
  funext kk a b
  simp only [rwV, fup]
  by_cases e2 : kk = 27 ∧ a = 0 ∧ b = o
  · rw [if_pos e2, if_pos (by omega), e2.2.2, Nat.sub_self]
  · rw [if_neg e2, if_neg (by omega)]
/-- only what was read differs -/
def nuS (M M' : fM) : Prop := ∀ k a b, k ≠ 27 → M' k a b = M k a b
theorem nuS_t {M N L : fM} (h1 : nuS M N) (h2 : nuS N L) : nuS M L := fun k a b q => (h2 k a b q).trans (h1 k a b q)
theorem nuS_r (M : fM) : nuS M M := fun _ _ _ _ => rfl
theorem nuS_u {M : fM} {b : Nat} {v : Int} : nuS M (fup M 27 0 b v) := fun k a c q => fup_ne (by omega)
theorem nuS_w {N : fM} {o c : Nat} {f : Nat → Int} : nuS N (rwV N o c f) := fun k a b q => by
  unfold rwV
  rw [if_neg (by omega)]
theorem mS_P {M N : fM} {q : Nat} (h : nuS M N) : mS M (mP N q) := fun k a b q1 q2 q3 q4 q5 q6 q7 => (mP_ne (by omega)).trans (h k a b q3)
theorem mS_u {M N : fM} {k a b : Nat} {v : Int} (h : mS M N) : mS (fup M k a b v) (fup N k a b v) := fun k' a' b' q1 q2 q3 q4 q5 q6 q7 => by
  by_cases e : k' = k ∧ a' = a ∧ b' = b
  · obtain ⟨rfl, rfl, rfl⟩ := e
    rw [fup_eq, fup_eq]
  · rw [fup_ne e, fup_ne e]
    exact h k' a' b' q1 q2 q3 q4 q5 q6 q7
set_option maxHeartbeats 4000000 in
set_option maxRecDepth 100000 in
theorem here_l {g : fG} {M : fM} {tp : Nat → Int} {ln : Nat} (ht : M 26 0 = tp) (hl : M 22 0 5 = (ln : Int)) (hn7 : ln ≤ 70) :
    ∀ (n q : Nat), q + n = ln → fAt g Y_X7_here 0 [some (vr 22 0)] [] (mP M q) (fI (fun z M' => z = lr tp ln (sk tp ln q) 0 ∧ M' = mP M (sk tp ln q))) := by
  intro n
  induction n with
  | zero =>
    intro q hm
    refine st_aload_n dX7_here_0 rfl ?_
    refine st_get dX7_here_1 fl_X7_136 rfl rfl rfl ?_
    refine fAt_v (x' := (q : Int)) (mP_r M q) ?_
    refine st_aload_n dX7_here_4 rfl ?_
    refine st_get dX7_here_5 fl_X7_133 rfl rfl rfl ?_
    refine fAt_v (x' := (ln : Int)) ((mP_ne (by omega)).trans hl) ?_
    refine st_icmp_ge 38 dX7_here_8 (by decide) (fun h8 => ?_) (fun h8 => ?_)
    · skip
      refine st_aload_n dX7_here_38 rfl ?_
      refine st_get dX7_here_39 fl_X7_136 rfl rfl rfl ?_
      refine fAt_v (x' := (q : Int)) (mP_r M q) ?_
      refine st_aload_n dX7_here_42 rfl ?_
      refine st_get dX7_here_43 fl_X7_133 rfl rfl rfl ?_
      refine fAt_v (x' := (ln : Int)) ((mP_ne (by omega)).trans hl) ?_
      refine st_icmp_ge 61 dX7_here_46 (by decide) (fun h46 => ?_) (fun h46 => ?_)
      · skip
        refine st_iconst dX7_here_61 (by decide) ?_
        refine st_ireturn dX7_here_62 rfl ⟨_, rfl, (by rw [sk_stop (by omega), lr_out (by omega)]; exact ⟨rfl, rfl⟩)⟩
      · skip
        exact absurd h46 (by omega)
    · skip
      exact absurd h8 (by omega)
  | succ n ih =>
    intro q hm
    refine st_aload_n dX7_here_0 rfl ?_
    refine st_get dX7_here_1 fl_X7_136 rfl rfl rfl ?_
    refine fAt_v (x' := (q : Int)) (mP_r M q) ?_
    refine st_aload_n dX7_here_4 rfl ?_
    refine st_get dX7_here_5 fl_X7_133 rfl rfl rfl ?_
    refine fAt_v (x' := (ln : Int)) ((mP_ne (by omega)).trans hl) ?_
    refine st_icmp_ge 38 dX7_here_8 (by decide) (fun h8 => ?_) (fun h8 => ?_)
    · skip
      exact absurd h8 (by omega)
    · skip
      refine st_aload_n dX7_here_11 rfl ?_
      refine st_getr (i' := 0) dX7_here_12 fl_X7_19 rfl rfl rfl (fun _ => by decide) ?_
      refine st_aload_n dX7_here_15 rfl ?_
      refine st_get dX7_here_16 fl_X7_136 rfl rfl rfl ?_
      refine fAt_v (x' := (q : Int)) (mP_r M q) ?_
      refine st_iald (j := q) dX7_here_19 rfl rfl rfl rfl (by omega) ?_
      refine fAt_v (x' := tp q) ((mP_ne (by omega)).trans (congrFun ht _)) ?_
      refine st_bipush dX7_here_20 (by decide) ?_
      refine st_icmp_ne 38 dX7_here_22 (by decide) (fun h22 => ?_) (fun h22 => ?_)
      · skip
        refine st_aload_n dX7_here_38 rfl ?_
        refine st_get dX7_here_39 fl_X7_136 rfl rfl rfl ?_
        refine fAt_v (x' := (q : Int)) (mP_r M q) ?_
        refine st_aload_n dX7_here_42 rfl ?_
        refine st_get dX7_here_43 fl_X7_133 rfl rfl rfl ?_
        refine fAt_v (x' := (ln : Int)) ((mP_ne (by omega)).trans hl) ?_
        refine st_icmp_ge 61 dX7_here_46 (by decide) (fun h46 => ?_) (fun h46 => ?_)
        · skip
          exact absurd h46 (by omega)
        · skip
          refine st_aload_n dX7_here_49 rfl ?_
          refine st_getr (i' := 0) dX7_here_50 fl_X7_19 rfl rfl rfl (fun _ => by decide) ?_
          refine st_aload_n dX7_here_53 rfl ?_
          refine st_get dX7_here_54 fl_X7_136 rfl rfl rfl ?_
          refine fAt_v (x' := (q : Int)) (mP_r M q) ?_
          refine st_iald (j := q) dX7_here_57 rfl rfl rfl rfl (by omega) ?_
          refine fAt_v (x' := tp q) ((mP_ne (by omega)).trans (congrFun ht _)) ?_
          refine st_goto 62 dX7_here_58 (by decide) ?_
          refine st_ireturn dX7_here_62 rfl ⟨_, rfl, (by rw [sk_stop (fun hc => h22 hc.2), lr_in (by omega)]; exact ⟨rfl, rfl⟩)⟩
      · skip
        refine st_aload_n dX7_here_25 rfl ?_
        refine st_dup dX7_here_26 rfl ?_
        refine st_get dX7_here_27 fl_X7_136 rfl rfl rfl ?_
        refine fAt_v (x' := (q : Int)) (mP_r M q) ?_
        refine st_iconst dX7_here_30 (by decide) ?_
        refine st_iadd dX7_here_31 (by omega) ?_
        refine st_put dX7_here_32 fl_X7_136 fp_X7_6.1 (Or.inl fp_X7_6.2) rfl rfl rfl ?_
        refine st_goto 0 dX7_here_35 (by decide) ?_
        rw [sk_step (by omega) h22]
        refine fAt_m (mP_p M q (q + 1)) ?_
        exact ih (q + 1) (by omega)
set_option maxHeartbeats 4000000 in
set_option maxRecDepth 100000 in
theorem m_here {g : fG} {M : fM} {tp : Nat → Int} {ln : Nat} (ht : M 26 0 = tp) (hl : M 22 0 5 = (ln : Int)) (hn7 : ln ≤ 70) {q : Nat} (hq : q ≤ ln) :
    fCi g Y_X7_here [vr 22 0] (mP M q) (fun z M' => z = lr tp ln (sk tp ln q) 0 ∧ M' = mP M (sk tp ln q)) := by
  refine fCi_of _ [some (vr 22 0)] (by decide) (Nat.le_of_ble_eq_true rfl) rfl (fun h => h) ?_
  exact here_l ht hl hn7 (ln - q) q (by omega)
set_option maxHeartbeats 4000000 in
set_option maxRecDepth 100000 in
theorem m_has {g : fG} {M : fM} {tp : Nat → Int} {ln : Nat} (ht : M 26 0 = tp) (hl : M 22 0 5 = (ln : Int)) (hn7 : ln ≤ 70) {q : Nat} {c : Int} (hq : q ≤ ln) (hc0 : (0 : Int) ≠ c) :
    fCi g Y_X7_has [vr 22 0, vi c] (mP M q) (fun z M' => (z = 1 ∧ isC tp ln (sk tp ln q) c ∧ M' = mP M (sk tp ln q + 1)) ∨ (z = 0 ∧ ¬ isC tp ln (sk tp ln q) c ∧ M' = mP M (sk tp ln q))) := by
  refine fCi_of _ [some (vr 22 0), some (vi c)] (by decide) (Nat.le_of_ble_eq_true rfl) rfl (fun h => h) ?_
  refine st_aload_n dX7_has_0 rfl ?_
  refine st_callVi [] [] dX7_has_1 vl_X7_139 rfl rfl rfl rfl (Nat.le_of_ble_eq_true rfl) (by decide) (m_here (M := M) (tp := tp) (ln := ln) (q := q) ht hl hn7 hq) (fun zh Mh qh => ?_)
  obtain ⟨rfl, h0h⟩ := qh
  subst Mh
  refine st_iload_n dX7_has_4 rfl ?_
  refine st_icmp_eq 10 dX7_has_5 (by decide) (fun h5 => ?_) (fun h5 => ?_)
  · skip
    have hsl := (sk_le (tp := tp) hq).2
    refine st_aload_n dX7_has_10 rfl ?_
    refine st_dup dX7_has_11 rfl ?_
    refine st_get dX7_has_12 fl_X7_136 rfl rfl rfl ?_
    refine fAt_v (x' := (((sk tp ln q) : Nat) : Int)) (mP_r _ _) ?_
    refine st_iconst dX7_has_15 (by decide) ?_
    refine st_iadd dX7_has_16 (by omega) ?_
    refine st_put dX7_has_17 fl_X7_136 fp_X7_6.1 (Or.inl fp_X7_6.2) rfl rfl rfl ?_
    refine fAt_m (mP_p M _ ((sk tp ln q) + 1)) ?_
    refine st_iconst dX7_has_20 (by decide) ?_
    refine st_zreturn dX7_has_21 rfl (by omega) ⟨_, rfl, Or.inl ⟨rfl, (lr_eq hc0).mp h5, rfl⟩⟩
  · skip
    refine st_iconst dX7_has_8 (by decide) ?_
    refine st_zreturn dX7_has_9 rfl (by omega) ⟨_, rfl, Or.inr ⟨rfl, fun hc => h5 ((lr_eq hc0).mpr hc), rfl⟩⟩
set_option maxHeartbeats 4000000 in
set_option maxRecDepth 100000 in
theorem m_number {g : fG} {M : fM} {tp : Nat → Int} {ln : Nat} (ht : M 26 0 = tp) (hl : M 22 0 5 = (ln : Int)) (hn7 : ln ≤ 70) {q : Nat} (hq : q ≤ ln) {p : Int} (hp : M 23 0 2 = p) (hp2 : 2 ≤ p ∧ p ≤ 97) :
    fCi g Y_X7_number [vr 22 0] (mP M q) (fun z M' => (z = -1 ∧ (¬ isD tp ln (sk tp ln q) ∨ p ≤ nV tp ln (sk tp ln q)) ∧ M' = mP M (sk tp ln q)) ∨ (isD tp ln (sk tp ln q) ∧ nV tp ln (sk tp ln q) < p ∧ z = nV tp ln (sk tp ln q) ∧ M' = mP M (nE tp ln (sk tp ln q)))) := by
  refine fCi_of _ [some (vr 22 0), none, none] (by decide) (Nat.le_of_ble_eq_true rfl) rfl (fun h => h) ?_
  refine st_aload_n dX7_number_0 rfl ?_
  refine st_callVi [] [] dX7_number_1 vl_X7_139 rfl rfl rfl rfl (Nat.le_of_ble_eq_true rfl) (by decide) (m_here (M := M) (tp := tp) (ln := ln) (q := q) ht hl hn7 hq) (fun zh Mh qh => ?_)
  obtain ⟨rfl, h0h⟩ := qh
  subst Mh
  refine st_i2l dX7_number_4 ?_
  refine st_ldc2 (v := 48) (48) dX7_number_5 (ftb_in 876 (by decide +kernel) rfl) (by decide +kernel) ?_
  refine st_ldc2 (v := 57) (57) dX7_number_8 (ftb_in 877 (by decide +kernel) rfl) (by decide +kernel) ?_
  refine st_callSi [vl (lr tp ln (sk tp ln q) 0), vl 48, vl 57] [] dX7_number_11 sl_X7_57 rfl rfl (Nat.le_of_ble_eq_true rfl) (by decide) (m_in) (fun za Ma qa => ?_)
  obtain ⟨qa, h0a⟩ := qa
  subst Ma
  rcases qa with ⟨rfl, aa⟩ | ⟨rfl, aa⟩
  · skip
    have hd := lr_D.mp aa
    refine st_if_ne 19 dX7_number_14 (by decide) (fun h14 => ?_) (fun h14 => ?_)
    · skip
      refine st_aload_n dX7_number_19 rfl ?_
      refine st_get dX7_number_20 fl_X7_136 rfl rfl rfl ?_
      refine fAt_v (x' := (((sk tp ln q) : Nat) : Int)) (mP_r _ _) ?_
      refine st_istore_n (ls' := [some (vr 22 0), some (vi (((sk tp ln q) : Nat) : Int)), none]) dX7_number_23 (by decide) rfl rfl ?_
      refine st_aload_n dX7_number_24 rfl ?_
      refine st_getr (i' := 0) dX7_number_25 fl_X7_19 rfl rfl rfl (fun _ => by decide) ?_
      refine st_aload_n dX7_number_28 rfl ?_
      refine st_get dX7_number_29 fl_X7_136 rfl rfl rfl ?_
      refine fAt_v (x' := (((sk tp ln q) : Nat) : Int)) (mP_r _ _) ?_
      refine st_iald (j := (sk tp ln q)) dX7_number_32 rfl rfl rfl rfl (by omega) ?_
      refine fAt_v (x' := tp (sk tp ln q)) ((mP_ne (by omega)).trans (congrFun ht _)) ?_
      refine st_bipush dX7_number_33 (by decide) ?_
      refine st_isub dX7_number_35 (by omega) ?_
      refine st_istore_n (ls' := [some (vr 22 0), some (vi (((sk tp ln q) : Nat) : Int)), some (vi (tp (sk tp ln q) - 48))]) dX7_number_36 (by decide) rfl rfl ?_
      refine st_aload_n dX7_number_37 rfl ?_
      refine st_dup dX7_number_38 rfl ?_
      refine st_get dX7_number_39 fl_X7_136 rfl rfl rfl ?_
      refine fAt_v (x' := (((sk tp ln q) : Nat) : Int)) (mP_r _ _) ?_
      refine st_iconst dX7_number_42 (by decide) ?_
      refine st_iadd dX7_number_43 (by omega) ?_
      refine st_put dX7_number_44 fl_X7_136 fp_X7_6.1 (Or.inl fp_X7_6.2) rfl rfl rfl ?_
      refine fAt_m (mP_p M _ ((sk tp ln q) + 1)) ?_
      refine st_aload_n dX7_number_47 rfl ?_
      refine st_get dX7_number_48 fl_X7_136 rfl rfl rfl ?_
      refine fAt_v (x' := ((((sk tp ln q) + 1) : Nat) : Int)) (mP_r _ _) ?_
      refine st_aload_n dX7_number_51 rfl ?_
      refine st_get dX7_number_52 fl_X7_133 rfl rfl rfl ?_
      refine fAt_v (x' := (ln : Int)) ((mP_ne (by omega)).trans hl) ?_
      refine st_icmp_ge 108 dX7_number_55 (by decide) (fun h55 => ?_) (fun h55 => ?_)
      · skip
        have hd2 : ¬ isD tp ln ((sk tp ln q) + 1) := by omega
        have hE : nE tp ln (sk tp ln q) = (sk tp ln q) + 1 := by unfold nE; rw [if_neg hd2]
        have hV : nV tp ln (sk tp ln q) = (tp (sk tp ln q) - 48) := by unfold nV; rw [if_neg hd2]
        refine st_aload_n dX7_number_108 rfl ?_
        refine st_iload_n dX7_number_109 rfl ?_
        refine st_i2l dX7_number_110 ?_
        refine st_callVi [vl (tp (sk tp ln q) - 48)] [] dX7_number_111 vl_X7_146 rfl rfl rfl rfl (Nat.le_of_ble_eq_true rfl) (by decide) (m_isNumber (M := (mP M ((sk tp ln q) + 1))) (p := p) ((mP_ne (by omega)).trans hp) hp2) (fun zi Mi qi => ?_)
        obtain ⟨qi, h0i⟩ := qi
        subst Mi
        rcases qi with ⟨rfl, ai⟩ | ⟨rfl, ai⟩
        · skip
          refine st_if_ne 124 dX7_number_114 (by decide) (fun h114 => ?_) (fun h114 => ?_)
          · skip
            refine st_iload_n dX7_number_124 rfl ?_
            refine st_ireturn dX7_number_125 rfl ⟨_, rfl, Or.inr ⟨hd, by omega, by omega, by rw [hE]⟩⟩
          · skip
            exact absurd h114 (by decide)
        · skip
          refine st_if_ne 124 dX7_number_114 (by decide) (fun h114 => ?_) (fun h114 => ?_)
          · skip
            exact absurd rfl h114
          · skip
            refine st_aload_n dX7_number_117 rfl ?_
            refine st_iload_n dX7_number_118 rfl ?_
            refine st_put dX7_number_119 fl_X7_136 fp_X7_6.1 (Or.inl fp_X7_6.2) rfl rfl rfl ?_
            refine fAt_m (mP_p M _ (sk tp ln q)) ?_
            refine st_iconst dX7_number_122 (by decide) ?_
            refine st_ireturn dX7_number_123 rfl ⟨_, rfl, Or.inl ⟨rfl, Or.inr (by omega), rfl⟩⟩
      · skip
        refine st_aload_n dX7_number_58 rfl ?_
        refine st_getr (i' := 0) dX7_number_59 fl_X7_19 rfl rfl rfl (fun _ => by decide) ?_
        refine st_aload_n dX7_number_62 rfl ?_
        refine st_get dX7_number_63 fl_X7_136 rfl rfl rfl ?_
        refine fAt_v (x' := ((((sk tp ln q) + 1) : Nat) : Int)) (mP_r _ _) ?_
        refine st_iald (j := ((sk tp ln q) + 1)) dX7_number_66 rfl rfl rfl rfl (by omega) ?_
        refine fAt_v (x' := tp ((sk tp ln q) + 1)) ((mP_ne (by omega)).trans (congrFun ht _)) ?_
        refine st_i2l dX7_number_67 ?_
        refine st_ldc2 (v := 48) (48) dX7_number_68 (ftb_in 876 (by decide +kernel) rfl) (by decide +kernel) ?_
        refine st_ldc2 (v := 57) (57) dX7_number_71 (ftb_in 877 (by decide +kernel) rfl) (by decide +kernel) ?_
        refine st_callSi [vl (tp ((sk tp ln q) + 1)), vl 48, vl 57] [] dX7_number_74 sl_X7_57 rfl rfl (Nat.le_of_ble_eq_true rfl) (by decide) (m_in) (fun zb Mb qb => ?_)
        obtain ⟨qb, h0b⟩ := qb
        subst Mb
        rcases qb with ⟨rfl, ab⟩ | ⟨rfl, ab⟩
        · skip
          have hd2 : isD tp ln ((sk tp ln q) + 1) := by omega
          refine st_if_eq 108 dX7_number_77 (by decide) (fun h77 => ?_) (fun h77 => ?_)
          · skip
            exact absurd h77 (by decide)
          · skip
            refine st_bipush dX7_number_80 (by decide) ?_
            refine st_iload_n dX7_number_82 rfl ?_
            refine st_imul dX7_number_83 (by omega) ?_
            refine st_aload_n dX7_number_84 rfl ?_
            refine st_getr (i' := 0) dX7_number_85 fl_X7_19 rfl rfl rfl (fun _ => by decide) ?_
            refine st_aload_n dX7_number_88 rfl ?_
            refine st_get dX7_number_89 fl_X7_136 rfl rfl rfl ?_
            refine fAt_v (x' := ((((sk tp ln q) + 1) : Nat) : Int)) (mP_r _ _) ?_
            refine st_iald (j := ((sk tp ln q) + 1)) dX7_number_92 rfl rfl rfl rfl (by omega) ?_
            refine fAt_v (x' := tp ((sk tp ln q) + 1)) ((mP_ne (by omega)).trans (congrFun ht _)) ?_
            refine st_iadd dX7_number_93 (by omega) ?_
            refine st_bipush dX7_number_94 (by decide) ?_
            refine st_isub dX7_number_96 (by omega) ?_
            refine st_istore_n (ls' := [some (vr 22 0), some (vi (((sk tp ln q) : Nat) : Int)), some (vi (10 * (tp (sk tp ln q) - 48) + tp ((sk tp ln q) + 1) - 48))]) dX7_number_97 (by decide) rfl rfl ?_
            refine st_aload_n dX7_number_98 rfl ?_
            refine st_dup dX7_number_99 rfl ?_
            refine st_get dX7_number_100 fl_X7_136 rfl rfl rfl ?_
            refine fAt_v (x' := ((((sk tp ln q) + 1) : Nat) : Int)) (mP_r _ _) ?_
            refine st_iconst dX7_number_103 (by decide) ?_
            refine st_iadd dX7_number_104 (by omega) ?_
            refine st_put dX7_number_105 fl_X7_136 fp_X7_6.1 (Or.inl fp_X7_6.2) rfl rfl rfl ?_
            refine fAt_m (mP_p M _ ((sk tp ln q) + 2)) ?_
            have hE : nE tp ln (sk tp ln q) = (sk tp ln q) + 2 := by unfold nE; rw [if_pos hd2]
            have hV : nV tp ln (sk tp ln q) = (10 * (tp (sk tp ln q) - 48) + tp ((sk tp ln q) + 1) - 48) := by unfold nV; rw [if_pos hd2]
            refine st_aload_n dX7_number_108 rfl ?_
            refine st_iload_n dX7_number_109 rfl ?_
            refine st_i2l dX7_number_110 ?_
            refine st_callVi [vl (10 * (tp (sk tp ln q) - 48) + tp ((sk tp ln q) + 1) - 48)] [] dX7_number_111 vl_X7_146 rfl rfl rfl rfl (Nat.le_of_ble_eq_true rfl) (by decide) (m_isNumber (M := (mP M ((sk tp ln q) + 2))) (p := p) ((mP_ne (by omega)).trans hp) hp2) (fun zi Mi qi => ?_)
            obtain ⟨qi, h0i⟩ := qi
            subst Mi
            rcases qi with ⟨rfl, ai⟩ | ⟨rfl, ai⟩
            · skip
              refine st_if_ne 124 dX7_number_114 (by decide) (fun h114 => ?_) (fun h114 => ?_)
              · skip
                refine st_iload_n dX7_number_124 rfl ?_
                refine st_ireturn dX7_number_125 rfl ⟨_, rfl, Or.inr ⟨hd, by omega, by omega, by rw [hE]⟩⟩
              · skip
                exact absurd h114 (by decide)
            · skip
              refine st_if_ne 124 dX7_number_114 (by decide) (fun h114 => ?_) (fun h114 => ?_)
              · skip
                exact absurd rfl h114
              · skip
                refine st_aload_n dX7_number_117 rfl ?_
                refine st_iload_n dX7_number_118 rfl ?_
                refine st_put dX7_number_119 fl_X7_136 fp_X7_6.1 (Or.inl fp_X7_6.2) rfl rfl rfl ?_
                refine fAt_m (mP_p M _ (sk tp ln q)) ?_
                refine st_iconst dX7_number_122 (by decide) ?_
                refine st_ireturn dX7_number_123 rfl ⟨_, rfl, Or.inl ⟨rfl, Or.inr (by omega), rfl⟩⟩
        · skip
          have hd2 : ¬ isD tp ln ((sk tp ln q) + 1) := fun h => ab h.2
          refine st_if_eq 108 dX7_number_77 (by decide) (fun h77 => ?_) (fun h77 => ?_)
          · skip
            have hE : nE tp ln (sk tp ln q) = (sk tp ln q) + 1 := by unfold nE; rw [if_neg hd2]
            have hV : nV tp ln (sk tp ln q) = (tp (sk tp ln q) - 48) := by unfold nV; rw [if_neg hd2]
            refine st_aload_n dX7_number_108 rfl ?_
            refine st_iload_n dX7_number_109 rfl ?_
            refine st_i2l dX7_number_110 ?_
            refine st_callVi [vl (tp (sk tp ln q) - 48)] [] dX7_number_111 vl_X7_146 rfl rfl rfl rfl (Nat.le_of_ble_eq_true rfl) (by decide) (m_isNumber (M := (mP M ((sk tp ln q) + 1))) (p := p) ((mP_ne (by omega)).trans hp) hp2) (fun zi Mi qi => ?_)
            obtain ⟨qi, h0i⟩ := qi
            subst Mi
            rcases qi with ⟨rfl, ai⟩ | ⟨rfl, ai⟩
            · skip
              refine st_if_ne 124 dX7_number_114 (by decide) (fun h114 => ?_) (fun h114 => ?_)
              · skip
                refine st_iload_n dX7_number_124 rfl ?_
                refine st_ireturn dX7_number_125 rfl ⟨_, rfl, Or.inr ⟨hd, by omega, by omega, by rw [hE]⟩⟩
              · skip
                exact absurd h114 (by decide)
            · skip
              refine st_if_ne 124 dX7_number_114 (by decide) (fun h114 => ?_) (fun h114 => ?_)
              · skip
                exact absurd rfl h114
              · skip
                refine st_aload_n dX7_number_117 rfl ?_
                refine st_iload_n dX7_number_118 rfl ?_
                refine st_put dX7_number_119 fl_X7_136 fp_X7_6.1 (Or.inl fp_X7_6.2) rfl rfl rfl ?_
                refine fAt_m (mP_p M _ (sk tp ln q)) ?_
                refine st_iconst dX7_number_122 (by decide) ?_
                refine st_ireturn dX7_number_123 rfl ⟨_, rfl, Or.inl ⟨rfl, Or.inr (by omega), rfl⟩⟩
          · skip
            exact absurd rfl h77
    · skip
      exact absurd h14 (by decide)
  · skip
    refine st_if_ne 19 dX7_number_14 (by decide) (fun h14 => ?_) (fun h14 => ?_)
    · skip
      exact absurd rfl h14
    · skip
      refine st_iconst dX7_number_17 (by decide) ?_
      refine st_ireturn dX7_number_18 rfl ⟨_, rfl, Or.inl ⟨rfl, Or.inl (fun h => aa (lr_D.mpr h)), rfl⟩⟩
set_option maxHeartbeats 4000000 in
set_option maxRecDepth 100000 in
theorem m_kindBy {g : fG} {M : fM} {x : Int} :
    fCi g Y_X7_kindBy [vi x] M (fun z M' => z = kb x ∧ M' = M) := by
  refine fCi_of _ [some (vi x)] (by decide) (Nat.le_of_ble_eq_true rfl) rfl (fun h => h) ?_
  refine st_iload_n dX7_kindBy_0 rfl ?_
  refine st_bipush dX7_kindBy_1 (by decide) ?_
  refine st_icmp_ne 10 dX7_kindBy_3 (by decide) (fun h3 => ?_) (fun h3 => ?_)
  · skip
    refine st_iload_n dX7_kindBy_10 rfl ?_
    refine st_bipush dX7_kindBy_11 (by decide) ?_
    refine st_icmp_ne 20 dX7_kindBy_13 (by decide) (fun h13 => ?_) (fun h13 => ?_)
    · skip
      refine st_iload_n dX7_kindBy_20 rfl ?_
      refine st_bipush dX7_kindBy_21 (by decide) ?_
      refine st_icmp_ne 30 dX7_kindBy_23 (by decide) (fun h23 => ?_) (fun h23 => ?_)
      · skip
        refine st_iload_n dX7_kindBy_30 rfl ?_
        refine st_bipush dX7_kindBy_31 (by decide) ?_
        refine st_icmp_ne 40 dX7_kindBy_33 (by decide) (fun h33 => ?_) (fun h33 => ?_)
        · skip
          refine st_iload_n dX7_kindBy_40 rfl ?_
          refine st_bipush dX7_kindBy_41 (by decide) ?_
          refine st_icmp_ne 50 dX7_kindBy_43 (by decide) (fun h43 => ?_) (fun h43 => ?_)
          · skip
            refine st_iconst dX7_kindBy_50 (by decide) ?_
            refine st_ireturn dX7_kindBy_51 rfl ⟨_, rfl, ⟨?_, rfl⟩⟩
            unfold kb
            first
            | (rw [if_pos (by omega)]; done)
            | (rw [if_neg (by omega), if_pos (by omega)]; done)
            | (rw [if_neg (by omega), if_neg (by omega), if_pos (by omega)]; done)
            | (rw [if_neg (by omega), if_neg (by omega), if_neg (by omega), if_pos (by omega)]; done)
            | (rw [if_neg (by omega), if_neg (by omega), if_neg (by omega), if_neg (by omega), if_pos (by omega)]; done)
            | rw [if_neg (by omega), if_neg (by omega), if_neg (by omega), if_neg (by omega), if_neg (by omega)]
          · skip
            refine st_iconst dX7_kindBy_46 (by decide) ?_
            refine st_goto 51 dX7_kindBy_47 (by decide) ?_
            refine st_ireturn dX7_kindBy_51 rfl ⟨_, rfl, ⟨?_, rfl⟩⟩
            unfold kb
            first
            | (rw [if_pos (by omega)]; done)
            | (rw [if_neg (by omega), if_pos (by omega)]; done)
            | (rw [if_neg (by omega), if_neg (by omega), if_pos (by omega)]; done)
            | (rw [if_neg (by omega), if_neg (by omega), if_neg (by omega), if_pos (by omega)]; done)
            | (rw [if_neg (by omega), if_neg (by omega), if_neg (by omega), if_neg (by omega), if_pos (by omega)]; done)
            | rw [if_neg (by omega), if_neg (by omega), if_neg (by omega), if_neg (by omega), if_neg (by omega)]
        · skip
          refine st_iconst dX7_kindBy_36 (by decide) ?_
          refine st_goto 51 dX7_kindBy_37 (by decide) ?_
          refine st_ireturn dX7_kindBy_51 rfl ⟨_, rfl, ⟨?_, rfl⟩⟩
          unfold kb
          first
          | (rw [if_pos (by omega)]; done)
          | (rw [if_neg (by omega), if_pos (by omega)]; done)
          | (rw [if_neg (by omega), if_neg (by omega), if_pos (by omega)]; done)
          | (rw [if_neg (by omega), if_neg (by omega), if_neg (by omega), if_pos (by omega)]; done)
          | (rw [if_neg (by omega), if_neg (by omega), if_neg (by omega), if_neg (by omega), if_pos (by omega)]; done)
          | rw [if_neg (by omega), if_neg (by omega), if_neg (by omega), if_neg (by omega), if_neg (by omega)]
      · skip
        refine st_iconst dX7_kindBy_26 (by decide) ?_
        refine st_goto 51 dX7_kindBy_27 (by decide) ?_
        refine st_ireturn dX7_kindBy_51 rfl ⟨_, rfl, ⟨?_, rfl⟩⟩
        unfold kb
        first
        | (rw [if_pos (by omega)]; done)
        | (rw [if_neg (by omega), if_pos (by omega)]; done)
        | (rw [if_neg (by omega), if_neg (by omega), if_pos (by omega)]; done)
        | (rw [if_neg (by omega), if_neg (by omega), if_neg (by omega), if_pos (by omega)]; done)
        | (rw [if_neg (by omega), if_neg (by omega), if_neg (by omega), if_neg (by omega), if_pos (by omega)]; done)
        | rw [if_neg (by omega), if_neg (by omega), if_neg (by omega), if_neg (by omega), if_neg (by omega)]
    · skip
      refine st_iconst dX7_kindBy_16 (by decide) ?_
      refine st_goto 51 dX7_kindBy_17 (by decide) ?_
      refine st_ireturn dX7_kindBy_51 rfl ⟨_, rfl, ⟨?_, rfl⟩⟩
      unfold kb
      first
      | (rw [if_pos (by omega)]; done)
      | (rw [if_neg (by omega), if_pos (by omega)]; done)
      | (rw [if_neg (by omega), if_neg (by omega), if_pos (by omega)]; done)
      | (rw [if_neg (by omega), if_neg (by omega), if_neg (by omega), if_pos (by omega)]; done)
      | (rw [if_neg (by omega), if_neg (by omega), if_neg (by omega), if_neg (by omega), if_pos (by omega)]; done)
      | rw [if_neg (by omega), if_neg (by omega), if_neg (by omega), if_neg (by omega), if_neg (by omega)]
  · skip
    refine st_iconst dX7_kindBy_6 (by decide) ?_
    refine st_goto 51 dX7_kindBy_7 (by decide) ?_
    refine st_ireturn dX7_kindBy_51 rfl ⟨_, rfl, ⟨?_, rfl⟩⟩
    unfold kb
    first
    | (rw [if_pos (by omega)]; done)
    | (rw [if_neg (by omega), if_pos (by omega)]; done)
    | (rw [if_neg (by omega), if_neg (by omega), if_pos (by omega)]; done)
    | (rw [if_neg (by omega), if_neg (by omega), if_neg (by omega), if_pos (by omega)]; done)
    | (rw [if_neg (by omega), if_neg (by omega), if_neg (by omega), if_neg (by omega), if_pos (by omega)]; done)
    | rw [if_neg (by omega), if_neg (by omega), if_neg (by omega), if_neg (by omega), if_neg (by omega)]
set_option maxHeartbeats 4000000 in
set_option maxRecDepth 100000 in
theorem numbers_l {g : fG} {tp : Nat → Int} {ln fr mo : Nat} {p : Int} (hn7 : ln ≤ 70) (hp2 : 2 ≤ p ∧ p ≤ 97) (hfm : fr + mo ≤ 17) :
    ∀ (n : Nat) (k : Nat) (N : fM) (q : Nat), k + (n + 1) = mo → q ≤ ln → N 26 0 = tp → N 22 0 5 = (ln : Int) → N 23 0 2 = p → fAt g Y_X7_numbers 5 [some (vr 22 0), some (vi (fr : Int)), some (vi (mo : Int)), some (vi (k : Int)), some (vi 1), none] [] (mP N q) (fI (fun z M' => (∃ x, (rwp tp ln p (n + 1) q).1 = some x ∧ x ≤ ln ∧ ∃ N', M' = mP N' x ∧ nuS N N' ∧ ((z = -1 ∧ sk tp ln x = x) ∨ (1 ≤ z ∧ z ≤ (mo : Int) ∧ isD tp ln x))) ∨ ((rwp tp ln p (n + 1) q).1 = none ∧ z = ((k + (rwp tp ln p (n + 1) q).2.1 : Nat) : Int) ∧ ∃ q', q' ≤ ln ∧ sk tp ln q' = (rwp tp ln p (n + 1) q).2.2 ∧ M' = mP (rwV N (fr + k) (rwp tp ln p (n + 1) q).2.1 (vlp tp ln q)) q'))) := by
  intro n
  induction n with
  | zero =>
    intro k N q hm hq ht hl hp
    refine st_iload dX7_numbers_5 rfl ?_
    refine st_if_eq 60 dX7_numbers_7 (by decide) (fun h7 => ?_) (fun h7 => ?_)
    · skip
      exact absurd h7 (by decide)
    · skip
      refine st_aload_n dX7_numbers_10 rfl ?_
      refine st_callVi [] [] dX7_numbers_11 vl_X7_150 rfl rfl rfl rfl (Nat.le_of_ble_eq_true rfl) (by decide) (m_number (M := N) (tp := tp) (ln := ln) ht hl hn7 (q := q) hq (p := p) hp hp2) (fun z Mr qr => ?_)
      have hsq := sk_le (tp := tp) hq
      rcases qr with ⟨rfl, hf, h0⟩ | ⟨hd, hv, rfl, h0⟩
      · skip
        subst Mr
        refine st_istore (ls' := [some (vr 22 0), some (vi (fr : Int)), some (vi (mo : Int)), some (vi (k : Int)), some (vi 1), some (vi (-1))]) dX7_numbers_14 (by decide) rfl rfl ?_
        refine st_iload dX7_numbers_16 rfl ?_
        refine st_if_ge 23 dX7_numbers_18 (by decide) (fun h18 => ?_) (fun h18 => ?_)
        · skip
          exact absurd h18 (by decide)
        · skip
          refine st_iconst dX7_numbers_21 (by decide) ?_
          refine st_ireturn dX7_numbers_22 rfl ⟨_, rfl, Or.inl ⟨sk tp ln q, by rw [rwp_f (show nF tp ln p q = some (sk tp ln q) by rcases hf with h | h; exact nF_1 h; exact nF_2 h)], by omega, N, rfl, nuS_r N, Or.inl ⟨rfl, sk_sk hq⟩⟩⟩
      · skip
        subst Mr
        have hvb := nV_b hd
        have heb := nE_b hd
        refine st_istore (ls' := [some (vr 22 0), some (vi (fr : Int)), some (vi (mo : Int)), some (vi (k : Int)), some (vi 1), some (vi (nV tp ln (sk tp ln q)))]) dX7_numbers_14 (by decide) rfl rfl ?_
        refine st_iload dX7_numbers_16 rfl ?_
        refine st_if_ge 23 dX7_numbers_18 (by decide) (fun h18 => ?_) (fun h18 => ?_)
        · skip
          refine st_aload_n dX7_numbers_23 rfl ?_
          refine st_getr (i' := 0) dX7_numbers_24 fl_X7_22 rfl rfl rfl (fun _ => by decide) ?_
          refine st_iload_n dX7_numbers_27 rfl ?_
          refine st_iload_n dX7_numbers_28 rfl ?_
          refine st_iadd dX7_numbers_29 (by omega) ?_
          refine st_iload dX7_numbers_30 rfl ?_
          refine st_iast (j := (fr + k)) dX7_numbers_32 rfl rfl rfl (by omega) (by omega) ?_
          refine fAt_m (mP_w N _ 27 0 (fr + k) _ (by decide)) ?_
          have ht1 : (fup N 27 0 (fr + k) (nV tp ln (sk tp ln q))) 26 0 = tp := (funext fun b => fup_ne (by omega)).trans ht
          refine st_iinc (ls' := [some (vr 22 0), some (vi (fr : Int)), some (vi (mo : Int)), some (vi ((k : Int) + 1)), some (vi 1), some (vi (nV tp ln (sk tp ln q)))]) dX7_numbers_33 rfl (by omega) (by decide) rfl rfl ?_
          refine st_iload_n dX7_numbers_36 rfl ?_
          refine st_iload_n dX7_numbers_37 rfl ?_
          refine st_icmp_ge 54 dX7_numbers_38 (by decide) (fun h38 => ?_) (fun h38 => ?_)
          · skip
            have hnc : ¬ (0 ≠ 0 ∧ isC tp ln (nx tp ln q) 44) := fun hc => hc.1 (by omega)
            refine st_iconst dX7_numbers_54 (by decide) ?_
            refine st_istore (ls' := [some (vr 22 0), some (vi (fr : Int)), some (vi (mo : Int)), some (vi ((k : Int) + 1)), some (vi 0), some (vi (nV tp ln (sk tp ln q)))]) dX7_numbers_55 (by decide) rfl rfl ?_
            refine st_goto 5 dX7_numbers_57 (by decide) ?_
            refine st_iload dX7_numbers_5 rfl ?_
            refine st_if_eq 60 dX7_numbers_7 (by decide) (fun h7 => ?_) (fun h7 => ?_)
            · skip
              refine st_iload_n dX7_numbers_60 rfl ?_
              refine st_ireturn dX7_numbers_61 rfl ⟨_, rfl, ?_⟩
              by_cases hdd : isD tp ln (nE tp ln (sk tp ln q))
              · have hF := nF_3 (p := p) hd hv hdd
                refine Or.inl ⟨nE tp ln (sk tp ln q), by rw [rwp_f hF], by omega, _, (by first | rfl | rw [sk_D hdd]), nuS_u, Or.inr ⟨by omega, by omega, hdd⟩⟩
              · have hF := nF_0 (p := p) hd hv hdd
                have hr := rwp_e (p := p) (f := 0) hF hnc
                refine Or.inr ⟨by rw [hr], by rw [hr]; rfl, (nE tp ln (sk tp ln q)), (by first | exact heb.2 | exact (sk_le heb.2).2), (by rw [hr]; first | rfl | exact sk_sk heb.2), ?_⟩
                rw [hr, ← rwV_1 N (fr + k) (vlp tp ln q)]
                rfl
            · skip
              exact absurd rfl h7
          · skip
            refine st_aload_n dX7_numbers_41 rfl ?_
            refine st_bipush dX7_numbers_42 (by decide) ?_
            refine st_callVi [vi 44] [] dX7_numbers_44 vl_X7_153 rfl rfl rfl rfl (Nat.le_of_ble_eq_true rfl) (by decide) (m_has (M := (fup N 27 0 (fr + k) (nV tp ln (sk tp ln q)))) (tp := tp) (ln := ln) ht1 hl hn7 (q := (nE tp ln (sk tp ln q))) (c := 44) (by omega) (by decide)) (fun zh Mh qh => ?_)
            rcases qh with ⟨rfl, hcc, h0⟩ | ⟨rfl, hcc, h0⟩
            · skip
              subst Mh
              have hdd : ¬ isD tp ln (nE tp ln (sk tp ln q)) := fun h => by
                rw [sk_D h] at hcc
                omega
              have hF := nF_0 (p := p) hd hv hdd
              have hcc : isC tp ln (nx tp ln q) 44 := hcc
              refine st_if_eq 54 dX7_numbers_47 (by decide) (fun h47 => ?_) (fun h47 => ?_)
              · skip
                exact absurd h47 (by decide)
              · skip
                refine st_iconst dX7_numbers_50 (by decide) ?_
                refine st_goto 55 dX7_numbers_51 (by decide) ?_
                refine st_istore (ls' := [some (vr 22 0), some (vi (fr : Int)), some (vi (mo : Int)), some (vi ((k : Int) + 1)), some (vi 1), some (vi (nV tp ln (sk tp ln q)))]) dX7_numbers_55 (by decide) rfl rfl ?_
                refine st_goto 5 dX7_numbers_57 (by decide) ?_
                exact absurd h38 (by omega)
            · skip
              subst Mh
              have hnc : ¬ (0 ≠ 0 ∧ isC tp ln (nx tp ln q) 44) := fun hc => hcc hc.2
              refine st_if_eq 54 dX7_numbers_47 (by decide) (fun h47 => ?_) (fun h47 => ?_)
              · skip
                refine st_iconst dX7_numbers_54 (by decide) ?_
                refine st_istore (ls' := [some (vr 22 0), some (vi (fr : Int)), some (vi (mo : Int)), some (vi ((k : Int) + 1)), some (vi 0), some (vi (nV tp ln (sk tp ln q)))]) dX7_numbers_55 (by decide) rfl rfl ?_
                refine st_goto 5 dX7_numbers_57 (by decide) ?_
                refine st_iload dX7_numbers_5 rfl ?_
                refine st_if_eq 60 dX7_numbers_7 (by decide) (fun h7 => ?_) (fun h7 => ?_)
                · skip
                  refine st_iload_n dX7_numbers_60 rfl ?_
                  refine st_ireturn dX7_numbers_61 rfl ⟨_, rfl, ?_⟩
                  by_cases hdd : isD tp ln (nE tp ln (sk tp ln q))
                  · have hF := nF_3 (p := p) hd hv hdd
                    refine Or.inl ⟨nE tp ln (sk tp ln q), by rw [rwp_f hF], by omega, _, (by first | rfl | rw [sk_D hdd]), nuS_u, Or.inr ⟨by omega, by omega, hdd⟩⟩
                  · have hF := nF_0 (p := p) hd hv hdd
                    have hr := rwp_e (p := p) (f := 0) hF hnc
                    refine Or.inr ⟨by rw [hr], by rw [hr]; rfl, nx tp ln q, (by first | exact heb.2 | exact (sk_le heb.2).2), (by rw [hr]; first | rfl | exact sk_sk heb.2), ?_⟩
                    rw [hr, ← rwV_1 N (fr + k) (vlp tp ln q)]
                    rfl
                · skip
                  exact absurd rfl h7
              · skip
                exact absurd rfl h47
        · skip
          exact absurd h18 (by omega)
  | succ n ih =>
    intro k N q hm hq ht hl hp
    refine st_iload dX7_numbers_5 rfl ?_
    refine st_if_eq 60 dX7_numbers_7 (by decide) (fun h7 => ?_) (fun h7 => ?_)
    · skip
      exact absurd h7 (by decide)
    · skip
      refine st_aload_n dX7_numbers_10 rfl ?_
      refine st_callVi [] [] dX7_numbers_11 vl_X7_150 rfl rfl rfl rfl (Nat.le_of_ble_eq_true rfl) (by decide) (m_number (M := N) (tp := tp) (ln := ln) ht hl hn7 (q := q) hq (p := p) hp hp2) (fun z Mr qr => ?_)
      have hsq := sk_le (tp := tp) hq
      rcases qr with ⟨rfl, hf, h0⟩ | ⟨hd, hv, rfl, h0⟩
      · skip
        subst Mr
        refine st_istore (ls' := [some (vr 22 0), some (vi (fr : Int)), some (vi (mo : Int)), some (vi (k : Int)), some (vi 1), some (vi (-1))]) dX7_numbers_14 (by decide) rfl rfl ?_
        refine st_iload dX7_numbers_16 rfl ?_
        refine st_if_ge 23 dX7_numbers_18 (by decide) (fun h18 => ?_) (fun h18 => ?_)
        · skip
          exact absurd h18 (by decide)
        · skip
          refine st_iconst dX7_numbers_21 (by decide) ?_
          refine st_ireturn dX7_numbers_22 rfl ⟨_, rfl, Or.inl ⟨sk tp ln q, by rw [rwp_f (show nF tp ln p q = some (sk tp ln q) by rcases hf with h | h; exact nF_1 h; exact nF_2 h)], by omega, N, rfl, nuS_r N, Or.inl ⟨rfl, sk_sk hq⟩⟩⟩
      · skip
        subst Mr
        have hvb := nV_b hd
        have heb := nE_b hd
        refine st_istore (ls' := [some (vr 22 0), some (vi (fr : Int)), some (vi (mo : Int)), some (vi (k : Int)), some (vi 1), some (vi (nV tp ln (sk tp ln q)))]) dX7_numbers_14 (by decide) rfl rfl ?_
        refine st_iload dX7_numbers_16 rfl ?_
        refine st_if_ge 23 dX7_numbers_18 (by decide) (fun h18 => ?_) (fun h18 => ?_)
        · skip
          refine st_aload_n dX7_numbers_23 rfl ?_
          refine st_getr (i' := 0) dX7_numbers_24 fl_X7_22 rfl rfl rfl (fun _ => by decide) ?_
          refine st_iload_n dX7_numbers_27 rfl ?_
          refine st_iload_n dX7_numbers_28 rfl ?_
          refine st_iadd dX7_numbers_29 (by omega) ?_
          refine st_iload dX7_numbers_30 rfl ?_
          refine st_iast (j := (fr + k)) dX7_numbers_32 rfl rfl rfl (by omega) (by omega) ?_
          refine fAt_m (mP_w N _ 27 0 (fr + k) _ (by decide)) ?_
          have ht1 : (fup N 27 0 (fr + k) (nV tp ln (sk tp ln q))) 26 0 = tp := (funext fun b => fup_ne (by omega)).trans ht
          refine st_iinc (ls' := [some (vr 22 0), some (vi (fr : Int)), some (vi (mo : Int)), some (vi ((k : Int) + 1)), some (vi 1), some (vi (nV tp ln (sk tp ln q)))]) dX7_numbers_33 rfl (by omega) (by decide) rfl rfl ?_
          refine st_iload_n dX7_numbers_36 rfl ?_
          refine st_iload_n dX7_numbers_37 rfl ?_
          refine st_icmp_ge 54 dX7_numbers_38 (by decide) (fun h38 => ?_) (fun h38 => ?_)
          · skip
            exact absurd h38 (by omega)
          · skip
            refine st_aload_n dX7_numbers_41 rfl ?_
            refine st_bipush dX7_numbers_42 (by decide) ?_
            refine st_callVi [vi 44] [] dX7_numbers_44 vl_X7_153 rfl rfl rfl rfl (Nat.le_of_ble_eq_true rfl) (by decide) (m_has (M := (fup N 27 0 (fr + k) (nV tp ln (sk tp ln q)))) (tp := tp) (ln := ln) ht1 hl hn7 (q := (nE tp ln (sk tp ln q))) (c := 44) (by omega) (by decide)) (fun zh Mh qh => ?_)
            rcases qh with ⟨rfl, hcc, h0⟩ | ⟨rfl, hcc, h0⟩
            · skip
              subst Mh
              have hdd : ¬ isD tp ln (nE tp ln (sk tp ln q)) := fun h => by
                rw [sk_D h] at hcc
                omega
              have hF := nF_0 (p := p) hd hv hdd
              have hcc : isC tp ln (nx tp ln q) 44 := hcc
              refine st_if_eq 54 dX7_numbers_47 (by decide) (fun h47 => ?_) (fun h47 => ?_)
              · skip
                exact absurd h47 (by decide)
              · skip
                refine st_iconst dX7_numbers_50 (by decide) ?_
                refine st_goto 55 dX7_numbers_51 (by decide) ?_
                refine st_istore (ls' := [some (vr 22 0), some (vi (fr : Int)), some (vi (mo : Int)), some (vi ((k : Int) + 1)), some (vi 1), some (vi (nV tp ln (sk tp ln q)))]) dX7_numbers_55 (by decide) rfl rfl ?_
                refine st_goto 5 dX7_numbers_57 (by decide) ?_
                refine fAt_del 5 rfl ?_
                refine fAt_q (fun r M' h => ?_) (ih (k + 1) (fup N 27 0 (fr + k) (nV tp ln (sk tp ln q))) (nx tp ln q + 1) (by omega) (by omega) ht1 hl hp)
                have hr := rwp_c (p := p) (f := n + 1) hF (by omega) hcc
                obtain ⟨z, e, h⟩ := h
                refine ⟨z, e, ?_⟩
                rcases h with ⟨x, h1, h2, N', h3, h4, h5⟩ | ⟨h1, h2, q', h3, h4, h5⟩
                · exact Or.inl ⟨x, by rw [hr]; exact h1, h2, N', h3, nuS_t nuS_u h4, h5⟩
                · refine Or.inr ⟨by rw [hr]; exact h1, by rw [hr]; show z = ((k + (_ + 1) : Nat) : Int); omega, q', h3, by rw [hr]; exact h4, ?_⟩
                  rw [h5, hr, ← rwV_s N (fr + k) _ (vlp tp ln q) (vlp tp ln (nx tp ln q + 1)) (fun i => rfl)]
                  rfl
            · skip
              subst Mh
              have hnc : ¬ (n + 1 ≠ 0 ∧ isC tp ln (nx tp ln q) 44) := fun hc => hcc hc.2
              refine st_if_eq 54 dX7_numbers_47 (by decide) (fun h47 => ?_) (fun h47 => ?_)
              · skip
                refine st_iconst dX7_numbers_54 (by decide) ?_
                refine st_istore (ls' := [some (vr 22 0), some (vi (fr : Int)), some (vi (mo : Int)), some (vi ((k : Int) + 1)), some (vi 0), some (vi (nV tp ln (sk tp ln q)))]) dX7_numbers_55 (by decide) rfl rfl ?_
                refine st_goto 5 dX7_numbers_57 (by decide) ?_
                refine st_iload dX7_numbers_5 rfl ?_
                refine st_if_eq 60 dX7_numbers_7 (by decide) (fun h7 => ?_) (fun h7 => ?_)
                · skip
                  refine st_iload_n dX7_numbers_60 rfl ?_
                  refine st_ireturn dX7_numbers_61 rfl ⟨_, rfl, ?_⟩
                  by_cases hdd : isD tp ln (nE tp ln (sk tp ln q))
                  · have hF := nF_3 (p := p) hd hv hdd
                    refine Or.inl ⟨nE tp ln (sk tp ln q), by rw [rwp_f hF], by omega, _, (by first | rfl | rw [sk_D hdd]), nuS_u, Or.inr ⟨by omega, by omega, hdd⟩⟩
                  · have hF := nF_0 (p := p) hd hv hdd
                    have hr := rwp_e (p := p) (f := n + 1) hF hnc
                    refine Or.inr ⟨by rw [hr], by rw [hr]; rfl, nx tp ln q, (by first | exact heb.2 | exact (sk_le heb.2).2), (by rw [hr]; first | rfl | exact sk_sk heb.2), ?_⟩
                    rw [hr, ← rwV_1 N (fr + k) (vlp tp ln q)]
                    rfl
                · skip
                  exact absurd rfl h7
              · skip
                exact absurd rfl h47
        · skip
          exact absurd h18 (by omega)
set_option maxHeartbeats 4000000 in
set_option maxRecDepth 100000 in
theorem m_numbers {g : fG} {M : fM} {tp : Nat → Int} {ln fr mo : Nat} {p : Int} (hn7 : ln ≤ 70) (hp2 : 2 ≤ p ∧ p ≤ 97) (hfm : fr + mo ≤ 17) (hm1 : 1 ≤ mo) {q : Nat} (hq : q ≤ ln) (ht : M 26 0 = tp) (hl : M 22 0 5 = (ln : Int)) (hp : M 23 0 2 = p) :
    fCi g Y_X7_numbers [vr 22 0, vi (fr : Int), vi (mo : Int)] (mP M q) (fun z M' => (∃ x, (rwp tp ln p mo q).1 = some x ∧ x ≤ ln ∧ ∃ N', M' = mP N' x ∧ nuS M N' ∧ ((z = -1 ∧ sk tp ln x = x) ∨ (1 ≤ z ∧ z ≤ (mo : Int) ∧ isD tp ln x))) ∨ ((rwp tp ln p mo q).1 = none ∧ z = (((rwp tp ln p mo q).2.1 : Nat) : Int) ∧ ∃ q', q' ≤ ln ∧ sk tp ln q' = (rwp tp ln p mo q).2.2 ∧ M' = mP (rwV M fr (rwp tp ln p mo q).2.1 (vlp tp ln q)) q')) := by
  refine fCi_of _ [some (vr 22 0), some (vi (fr : Int)), some (vi (mo : Int)), none, none, none] (by decide) (Nat.le_of_ble_eq_true rfl) rfl (fun h => h) ?_
  refine st_iconst dX7_numbers_0 (by decide) ?_
  refine st_istore_n (ls' := [some (vr 22 0), some (vi (fr : Int)), some (vi (mo : Int)), some (vi 0), none, none]) dX7_numbers_1 (by decide) rfl rfl ?_
  refine st_iconst dX7_numbers_2 (by decide) ?_
  refine st_istore (ls' := [some (vr 22 0), some (vi (fr : Int)), some (vi (mo : Int)), some (vi 0), some (vi 1), none]) dX7_numbers_3 (by decide) rfl rfl ?_
  obtain ⟨m, rfl⟩ : ∃ m, mo = m + 1 := ⟨mo - 1, by omega⟩
  refine fAt_q (fun r M' h => ?_) (numbers_l (tp := tp) (p := p) (fr := fr) (mo := m + 1) hn7 hp2 hfm m 0 M q (by omega) hq ht hl hp)
  obtain ⟨z, e, h⟩ := h
  rw [Nat.zero_add, Nat.add_zero] at h
  exact ⟨z, e, h⟩
set_option maxHeartbeats 4000000 in
set_option maxRecDepth 100000 in
theorem m_fault {g : fG} {M : fM} {tp : Nat → Int} {ln : Nat} (ht : M 26 0 = tp) (hl : M 22 0 5 = (ln : Int)) (hn7 : ln ≤ 70) {q : Nat} (hq : q ≤ ln) (hT : ∀ b, b < ln → 0 < tp b) :
    fCi g Y_X7_fault [vr 22 0] (mP M q) (fun z M' => z = -20 - ((sk tp ln q : Nat) : Int) ∧ M' = fup (mP M (sk tp ln q)) 22 0 5 0) := by
  refine fCi_of _ [some (vr 22 0), none, none] (by decide) (Nat.le_of_ble_eq_true rfl) rfl (fun h => h) ?_
  refine st_aload_n dX7_fault_0 rfl ?_
  refine st_callVi [] [] dX7_fault_1 vl_X7_139 rfl rfl rfl rfl (Nat.le_of_ble_eq_true rfl) (by decide) (m_here (M := M) (tp := tp) (ln := ln) (q := q) ht hl hn7 hq) (fun zh Mh qh => ?_)
  obtain ⟨rfl, h0h⟩ := qh
  subst Mh
  refine st_if_ne 11 dX7_fault_4 (by decide) (fun h4 => ?_) (fun h4 => ?_)
  · skip
    have h4 : sk tp ln q < ln := Classical.byContradiction fun q => h4 ((lr_z hT).mpr q)
    have hsl := (sk_le (tp := tp) hq).2
    refine st_iconst dX7_fault_11 (by decide) ?_
    refine st_istore_n (ls' := [some (vr 22 0), some (vi 0), none]) dX7_fault_12 (by decide) rfl rfl ?_
    refine st_bipush dX7_fault_13 (by decide) ?_
    refine st_iload_n dX7_fault_15 rfl ?_
    refine st_if_eq 26 dX7_fault_16 (by decide) (fun h16 => ?_) (fun h16 => ?_)
    · skip
      refine st_aload_n dX7_fault_26 rfl ?_
      refine st_get dX7_fault_27 fl_X7_136 rfl rfl rfl ?_
      refine fAt_v (x' := (((sk tp ln q) : Nat) : Int)) (mP_r _ _) ?_
      refine st_isub dX7_fault_30 (by omega) ?_
      refine st_istore_n (ls' := [some (vr 22 0), some (vi 0), some (vi ((-20) - (((sk tp ln q) : Nat) : Int)))]) dX7_fault_31 (by decide) rfl rfl ?_
      refine st_aload_n dX7_fault_32 rfl ?_
      refine st_iconst dX7_fault_33 (by decide) ?_
      refine st_put dX7_fault_34 fl_X7_133 fp_X7_5.1 (Or.inl fp_X7_5.2) rfl rfl rfl ?_
      refine st_iload_n dX7_fault_37 rfl ?_
      refine st_ireturn dX7_fault_38 rfl ⟨_, rfl, ⟨by omega, rfl⟩⟩
    · skip
      exact absurd rfl h16
  · skip
    have h4 : ¬ sk tp ln q < ln := (lr_z hT).mp h4
    have hsl := (sk_le (tp := tp) hq).2
    refine st_iconst dX7_fault_7 (by decide) ?_
    refine st_goto 12 dX7_fault_8 (by decide) ?_
    refine st_istore_n (ls' := [some (vr 22 0), some (vi 1), none]) dX7_fault_12 (by decide) rfl rfl ?_
    refine st_bipush dX7_fault_13 (by decide) ?_
    refine st_iload_n dX7_fault_15 rfl ?_
    refine st_if_eq 26 dX7_fault_16 (by decide) (fun h16 => ?_) (fun h16 => ?_)
    · skip
      exact absurd h16 (by decide)
    · skip
      refine st_aload_n dX7_fault_19 rfl ?_
      refine st_get dX7_fault_20 fl_X7_133 rfl rfl rfl ?_
      refine fAt_v (x' := (ln : Int)) ((mP_ne (by omega)).trans hl) ?_
      refine st_goto 30 dX7_fault_23 (by decide) ?_
      refine st_isub dX7_fault_30 (by omega) ?_
      refine st_istore_n (ls' := [some (vr 22 0), some (vi 1), some (vi ((-20) - (ln : Int)))]) dX7_fault_31 (by decide) rfl rfl ?_
      refine st_aload_n dX7_fault_32 rfl ?_
      refine st_iconst dX7_fault_33 (by decide) ?_
      refine st_put dX7_fault_34 fl_X7_133 fp_X7_5.1 (Or.inl fp_X7_5.2) rfl rfl rfl ?_
      refine st_iload_n dX7_fault_37 rfl ?_
      refine st_ireturn dX7_fault_38 rfl ⟨_, rfl, ⟨by omega, rfl⟩⟩
