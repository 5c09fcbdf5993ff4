/-! ===== the reference: sheets ===== -/
def mzL (M : fM) : Prop := ∀ s, s < 4 → 0 ≤ M 34 0 s ∧ M 34 0 s ≤ 24
def wys (M : fM) (s : Nat) (la i n : Int) : Int := if M 33 0 s < 0 then -11 else if M 33 0 s ≠ la then -12 else if i < 0 ∨ M 34 0 s - i < n then -13 else 0
def mfs (M : fM) (s la i n : Int) : Int := if ¬ (0 ≤ s ∧ s < 4) ∨ ¬ (0 ≤ la ∧ la < 4) then -1 else wys M s.toNat la i n
theorem wys_s (M : fM) (s : Nat) (la i n : Int) : wys M s la i n < 0 ∨ wys M s la i n = 0 := by
  unfold wys
  split
  · left; decide
  · split
    · left; decide
    · split
      · left; decide
      · right; rfl
theorem wys_0 {M : fM} {s : Nat} {la i n : Int} (h : wys M s la i n = 0) : 0 ≤ M 33 0 s ∧ M 33 0 s = la ∧ 0 ≤ i ∧ i + n ≤ M 34 0 s := by
  unfold wys at h
  split at h
  · omega
  · split at h
    · omega
    · split at h
      · omega
      · omega
theorem mfs_in {M : fM} {s la i n : Int} (h1 : 0 ≤ s ∧ s < 4) (h2 : 0 ≤ la ∧ la < 4) : mfs M s la i n = wys M s.toNat la i n := by
  unfold mfs
  rw [if_neg (by omega)]
theorem mfs_out {M : fM} {s la i n : Int} (h : ¬ (0 ≤ s ∧ s < 4) ∨ ¬ (0 ≤ la ∧ la < 4)) : mfs M s la i n = -1 := by
  unfold mfs
  rw [if_pos h]
set_option maxHeartbeats 4000000 in
set_option maxRecDepth 100000 in
theorem m_isSheet {g : fG} {M : fM} {x : Int} :
    fCi g Y_X7_isSheet [vi x] M (fun z M' => ((z = 1 ∧ 0 ≤ x ∧ x < 4) ∨ (z = 0 ∧ ¬ (0 ≤ x ∧ x < 4))) ∧ M' = M) := by
  refine fCi_of _ [some (vi x)] (by decide) (Nat.le_of_ble_eq_true rfl) rfl (fun h => h) ?_
  refine st_iload_n dX7_isSheet_0 rfl ?_
  refine st_i2l dX7_isSheet_1 ?_
  refine st_lconst0 dX7_isSheet_2 ?_
  refine st_ldc2 (v := 3) (3) dX7_isSheet_3 (ftb_in 995 (by decide +kernel) rfl) (by decide +kernel) ?_
  refine st_callSi [vl x, vl 0, vl 3] [] dX7_isSheet_6 sl_X7_57 rfl rfl (Nat.le_of_ble_eq_true rfl) (by decide) (m_in) (fun za Ma qa => ?_)
  obtain ⟨qa, rfl⟩ := qa
  refine st_zreturn dX7_isSheet_9 rfl (by omega) ⟨_, rfl, ⟨by omega, rfl⟩⟩
set_option maxHeartbeats 4000000 in
set_option maxRecDepth 100000 in
theorem m_cutTo {g : fG} {M : fM} {la x : Int} :
    fCl g Y_X7_cutTo [vl x, vi la] M (fun z M' => z = lwb la x ∧ M' = M) := by
  refine fCl_of _ [some (vl x), none, some (vi la)] (by decide) (Nat.le_of_ble_eq_true rfl) rfl (fun h => h) ?_
  refine st_iload_n dX7_cutTo_0 rfl ?_
  refine st_if_ne 11 dX7_cutTo_1 (by decide) (fun h1 => ?_) (fun h1 => ?_)
  · skip
    refine st_iload_n dX7_cutTo_11 rfl ?_
    refine st_iconst dX7_cutTo_12 (by decide) ?_
    refine st_icmp_ne 23 dX7_cutTo_13 (by decide) (fun h13 => ?_) (fun h13 => ?_)
    · skip
      refine st_iload_n dX7_cutTo_23 rfl ?_
      refine st_iconst dX7_cutTo_24 (by decide) ?_
      refine st_icmp_ne 34 dX7_cutTo_25 (by decide) (fun h25 => ?_) (fun h25 => ?_)
      · skip
        refine st_lload_n dX7_cutTo_34 rfl ?_
        refine st_lreturn dX7_cutTo_35 rfl ⟨_, rfl, ⟨?_, rfl⟩⟩
        unfold lwb
        first
        | (rw [if_pos (by assumption)]; done)
        | (rw [if_neg (by omega), if_pos (by assumption)]; done)
        | (rw [if_neg (by omega), if_neg (by omega), if_pos (by assumption)]; done)
        | rw [if_neg (by omega), if_neg (by omega), if_neg (by omega)]
      · skip
        refine st_lload_n dX7_cutTo_28 rfl ?_
        refine st_l2iw dX7_cutTo_29 ?_
        refine st_i2l dX7_cutTo_30 ?_
        refine st_goto 35 dX7_cutTo_31 (by decide) ?_
        refine st_lreturn dX7_cutTo_35 rfl ⟨_, rfl, ⟨?_, rfl⟩⟩
        unfold lwb
        first
        | (rw [if_pos (by assumption)]; done)
        | (rw [if_neg (by omega), if_pos (by assumption)]; done)
        | (rw [if_neg (by omega), if_neg (by omega), if_pos (by assumption)]; done)
        | rw [if_neg (by omega), if_neg (by omega), if_neg (by omega)]
    · skip
      refine st_lload_n dX7_cutTo_16 rfl ?_
      refine st_l2iw dX7_cutTo_17 ?_
      refine st_i2s dX7_cutTo_18 ?_
      refine st_i2l dX7_cutTo_19 ?_
      refine st_goto 35 dX7_cutTo_20 (by decide) ?_
      refine st_lreturn dX7_cutTo_35 rfl ⟨_, rfl, ⟨?_, rfl⟩⟩
      unfold lwb
      first
      | (rw [if_pos (by assumption)]; done)
      | (rw [if_neg (by omega), if_pos (by assumption)]; done)
      | (rw [if_neg (by omega), if_neg (by omega), if_pos (by assumption)]; done)
      | rw [if_neg (by omega), if_neg (by omega), if_neg (by omega)]
  · skip
    refine st_lload_n dX7_cutTo_4 rfl ?_
    refine st_l2iw dX7_cutTo_5 ?_
    refine st_i2b dX7_cutTo_6 ?_
    refine st_i2l dX7_cutTo_7 ?_
    refine st_goto 35 dX7_cutTo_8 (by decide) ?_
    refine st_lreturn dX7_cutTo_35 rfl ⟨_, rfl, ⟨?_, rfl⟩⟩
    unfold lwb
    first
    | (rw [if_pos (by assumption)]; done)
    | (rw [if_neg (by omega), if_pos (by assumption)]; done)
    | (rw [if_neg (by omega), if_neg (by omega), if_pos (by assumption)]; done)
    | rw [if_neg (by omega), if_neg (by omega), if_neg (by omega)]
def mSh (M : fM) (s : Nat) (la n : Int) (c : Nat) : fM := fun k a b => if k = 33 ∧ a = 0 ∧ b = s then la else if k = 34 ∧ a = 0 ∧ b = s then n else if k = 35 ∧ a = 0 ∧ 24 * s ≤ b ∧ b < 24 * s + c then 0 else M k a b
theorem mSh_s (M : fM) (s : Nat) (la n : Int) (c : Nat) : fup (mSh M s la n c) 35 0 (24 * s + c) 0 = mSh M s la n (c + 1) := by
  funext k a b
  simp only [mSh, fup]
  grind (splits := 40)
theorem mSh_0 (M : fM) (s : Nat) (la n : Int) : fup (fup M 33 0 s la) 34 0 s n = mSh M s la n 0 := by
  funext k a b
  simp only [mSh, fup]
  grind (splits := 40)
set_option maxHeartbeats 4000000 in
set_option maxRecDepth 100000 in
theorem m_sheet_l {g : fG} {M : fM} {s la n0 : Int} (hs : 0 ≤ s ∧ s < 4) :
    ∀ (n c : Nat), c + n = 24 → fAt g Y_X7_sheet 51 [some (vr 22 0), some (vi s), some (vi la), some (vi n0), some (vi (c : Int))] [] (mSh M s.toNat la n0 c) (fI (fun z M' => z = n0 ∧ M' = mSh M s.toNat la n0 24)) := by
  intro n
  induction n with
  | zero =>
    intro c hm
    refine st_iload dX7_sheet_51 rfl ?_
    refine st_bipush dX7_sheet_53 (by decide) ?_
    refine st_icmp_ge 77 dX7_sheet_55 (by decide) (fun h55 => ?_) (fun h55 => ?_)
    · skip
      refine st_iload_n dX7_sheet_77 rfl ?_
      refine st_ireturn dX7_sheet_78 rfl ⟨_, rfl, ⟨rfl, by rw [show c = 24 by omega]⟩⟩
    · skip
      exact absurd h55 (by omega)
  | succ n ih =>
    intro c hm
    refine st_iload dX7_sheet_51 rfl ?_
    refine st_bipush dX7_sheet_53 (by decide) ?_
    refine st_icmp_ge 77 dX7_sheet_55 (by decide) (fun h55 => ?_) (fun h55 => ?_)
    · skip
      exact absurd h55 (by omega)
    · skip
      refine st_aload_n dX7_sheet_58 rfl ?_
      refine st_getr (i' := 0) dX7_sheet_59 fl_X7_50 rfl rfl rfl (fun _ => by decide) ?_
      refine st_bipush dX7_sheet_62 (by decide) ?_
      refine st_iload_n dX7_sheet_64 rfl ?_
      refine st_imul dX7_sheet_65 (by omega) ?_
      refine st_iload dX7_sheet_66 rfl ?_
      refine st_iadd dX7_sheet_68 (by omega) ?_
      refine st_lconst0 dX7_sheet_69 ?_
      refine st_last (j := (24 * s.toNat + c)) dX7_sheet_70 rfl rfl rfl (by omega) (by omega) ?_
      refine fAt_m (mSh_s M s.toNat la n0 c) ?_
      refine st_iinc (ls' := [some (vr 22 0), some (vi s), some (vi la), some (vi n0), some (vi ((c : Int) + 1))]) dX7_sheet_71 rfl (by omega) (by decide) rfl rfl ?_
      refine st_goto 51 dX7_sheet_74 (by decide) ?_
      exact ih (c + 1) (by omega)
set_option maxHeartbeats 4000000 in
set_option maxRecDepth 100000 in
theorem m_sheet {g : fG} {M : fM} {s la n : Int} :
    fCi g Y_X7_sheet [vr 22 0, vi s, vi la, vi n] M (fun z M' => (¬ ((0 ≤ s ∧ s < 4) ∧ (0 ≤ la ∧ la < 4) ∧ n ≤ 24) ∧ z = -1 ∧ M' = M) ∨ (((0 ≤ s ∧ s < 4) ∧ (0 ≤ la ∧ la < 4) ∧ n ≤ 24) ∧ ((n < 0 ∧ z = -14 ∧ M' = M) ∨ (0 ≤ n ∧ z = n ∧ M' = mSh M s.toNat la n 24)))) := by
  refine fCi_of _ [some (vr 22 0), some (vi s), some (vi la), some (vi n), none] (by decide) (Nat.le_of_ble_eq_true rfl) rfl (fun h => h) ?_
  refine st_iload_n dX7_sheet_0 rfl ?_
  refine st_callSi [vi s] [] dX7_sheet_1 sl_X7_203 rfl rfl (Nat.le_of_ble_eq_true rfl) (by decide) (m_isSheet) (fun za Ma qa => ?_)
  obtain ⟨qa, rfl⟩ := qa
  rcases qa with ⟨rfl, aa⟩ | ⟨rfl, aa⟩
  · skip
    refine st_if_eq 25 dX7_sheet_4 (by decide) (fun h4 => ?_) (fun h4 => ?_)
    · skip
      exact absurd h4 (by omega)
    · skip
      refine st_iload_n dX7_sheet_7 rfl ?_
      refine st_i2l dX7_sheet_8 ?_
      refine st_lconst0 dX7_sheet_9 ?_
      refine st_ldc2 (v := 3) (3) dX7_sheet_10 (ftb_in 995 (by decide +kernel) rfl) (by decide +kernel) ?_
      refine st_callSi [vl la, vl 0, vl 3] [] dX7_sheet_13 sl_X7_57 rfl rfl (Nat.le_of_ble_eq_true rfl) (by decide) (m_in) (fun zb Mb qb => ?_)
      obtain ⟨qb, rfl⟩ := qb
      rcases qb with ⟨rfl, ab⟩ | ⟨rfl, ab⟩
      · skip
        refine st_if_eq 25 dX7_sheet_16 (by decide) (fun h16 => ?_) (fun h16 => ?_)
        · skip
          exact absurd h16 (by omega)
        · skip
          refine st_iload_n dX7_sheet_19 rfl ?_
          refine st_bipush dX7_sheet_20 (by decide) ?_
          refine st_icmp_le 27 dX7_sheet_22 (by decide) (fun h22 => ?_) (fun h22 => ?_)
          · skip
            refine st_iload_n dX7_sheet_27 rfl ?_
            refine st_if_ge 34 dX7_sheet_28 (by decide) (fun h28 => ?_) (fun h28 => ?_)
            · skip
              refine st_aload_n dX7_sheet_34 rfl ?_
              refine st_getr (i' := 0) dX7_sheet_35 fl_X7_44 rfl rfl rfl (fun _ => by decide) ?_
              refine st_iload_n dX7_sheet_38 rfl ?_
              refine st_iload_n dX7_sheet_39 rfl ?_
              refine st_iast (j := s.toNat) dX7_sheet_40 rfl rfl rfl (by omega) (by omega) ?_
              refine st_aload_n dX7_sheet_41 rfl ?_
              refine st_getr (i' := 0) dX7_sheet_42 fl_X7_47 rfl rfl rfl (fun _ => by decide) ?_
              refine st_iload_n dX7_sheet_45 rfl ?_
              refine st_iload_n dX7_sheet_46 rfl ?_
              refine st_iast (j := s.toNat) dX7_sheet_47 rfl rfl rfl (by omega) (by omega) ?_
              refine st_iconst dX7_sheet_48 (by decide) ?_
              refine st_istore (ls' := [some (vr 22 0), some (vi s), some (vi la), some (vi n), some (vi 0)]) dX7_sheet_49 (by decide) rfl rfl ?_
              refine fAt_m (mSh_0 _ s.toNat la n) ?_
              refine fAt_q (fun r M' h => ?_) (m_sheet_l aa 24 0 (by omega))
              obtain ⟨z, e, h1, h2⟩ := h
              exact ⟨z, e, Or.inr ⟨by omega, Or.inr ⟨by omega, h1, h2⟩⟩⟩
            · skip
              refine st_bipush dX7_sheet_31 (by decide) ?_
              refine st_ireturn dX7_sheet_33 rfl ⟨_, rfl, Or.inr ⟨by omega, Or.inl ⟨by omega, rfl, rfl⟩⟩⟩
          · skip
            refine st_iconst dX7_sheet_25 (by decide) ?_
            refine st_ireturn dX7_sheet_26 rfl ⟨_, rfl, Or.inl ⟨by omega, rfl, rfl⟩⟩
      · skip
        refine st_if_eq 25 dX7_sheet_16 (by decide) (fun h16 => ?_) (fun h16 => ?_)
        · skip
          refine st_iconst dX7_sheet_25 (by decide) ?_
          refine st_ireturn dX7_sheet_26 rfl ⟨_, rfl, Or.inl ⟨by omega, rfl, rfl⟩⟩
        · skip
          exact absurd h16 (by omega)
  · skip
    refine st_if_eq 25 dX7_sheet_4 (by decide) (fun h4 => ?_) (fun h4 => ?_)
    · skip
      refine st_iconst dX7_sheet_25 (by decide) ?_
      refine st_ireturn dX7_sheet_26 rfl ⟨_, rfl, Or.inl ⟨by omega, rfl, rfl⟩⟩
    · skip
      exact absurd h4 (by omega)
set_option maxHeartbeats 4000000 in
set_option maxRecDepth 100000 in
theorem m_drop {g : fG} {M : fM} {s : Int} :
    fCi g Y_X7_drop [vr 22 0, vi s] M (fun z M' => (¬ (0 ≤ s ∧ s < 4) ∧ z = -1 ∧ M' = M) ∨ ((0 ≤ s ∧ s < 4) ∧ ((M 33 0 s.toNat < 0 ∧ z = -11 ∧ M' = M) ∨ (0 ≤ M 33 0 s.toNat ∧ z = M 34 0 s.toNat ∧ M' = fup M 33 0 s.toNat (-1))))) := by
  refine fCi_of _ [some (vr 22 0), some (vi s)] (by decide) (Nat.le_of_ble_eq_true rfl) rfl (fun h => h) ?_
  refine st_iload_n dX7_drop_0 rfl ?_
  refine st_callSi [vi s] [] dX7_drop_1 sl_X7_203 rfl rfl (Nat.le_of_ble_eq_true rfl) (by decide) (m_isSheet) (fun za Ma qa => ?_)
  obtain ⟨qa, rfl⟩ := qa
  rcases qa with ⟨rfl, aa⟩ | ⟨rfl, aa⟩
  · skip
    refine st_if_ne 9 dX7_drop_4 (by decide) (fun h4 => ?_) (fun h4 => ?_)
    · skip
      refine st_aload_n dX7_drop_9 rfl ?_
      refine st_getr (i' := 0) dX7_drop_10 fl_X7_44 rfl rfl rfl (fun _ => by decide) ?_
      refine st_iload_n dX7_drop_13 rfl ?_
      refine st_iald (j := s.toNat) dX7_drop_14 rfl rfl rfl (by omega) (by omega) ?_
      refine st_if_ge 21 dX7_drop_15 (by decide) (fun h15 => ?_) (fun h15 => ?_)
      · skip
        refine st_aload_n dX7_drop_21 rfl ?_
        refine st_getr (i' := 0) dX7_drop_22 fl_X7_44 rfl rfl rfl (fun _ => by decide) ?_
        refine st_iload_n dX7_drop_25 rfl ?_
        refine st_iconst dX7_drop_26 (by decide) ?_
        refine st_iast (j := s.toNat) dX7_drop_27 rfl rfl rfl (by omega) (by omega) ?_
        refine st_aload_n dX7_drop_28 rfl ?_
        refine st_getr (i' := 0) dX7_drop_29 fl_X7_47 rfl rfl rfl (fun _ => by decide) ?_
        refine st_iload_n dX7_drop_32 rfl ?_
        refine st_iald (j := s.toNat) dX7_drop_33 rfl rfl rfl (by omega) (by omega) ?_
        refine st_ireturn dX7_drop_34 rfl ⟨_, rfl, Or.inr ⟨aa, Or.inr ⟨by omega, (fup_ne (by omega)), rfl⟩⟩⟩
      · skip
        refine st_bipush dX7_drop_18 (by decide) ?_
        refine st_ireturn dX7_drop_20 rfl ⟨_, rfl, Or.inr ⟨aa, Or.inl ⟨by omega, rfl, rfl⟩⟩⟩
    · skip
      exact absurd h4 (by omega)
  · skip
    refine st_if_ne 9 dX7_drop_4 (by decide) (fun h4 => ?_) (fun h4 => ?_)
    · skip
      exact absurd h4 (by omega)
    · skip
      refine st_iconst dX7_drop_7 (by decide) ?_
      refine st_ireturn dX7_drop_8 rfl ⟨_, rfl, Or.inl ⟨by omega, rfl, rfl⟩⟩
set_option maxHeartbeats 4000000 in
set_option maxRecDepth 100000 in
theorem m_why {g : fG} {M : fM} {s la i n : Int} (hs : 0 ≤ s ∧ s < 4) (hz : mzL M) :
    fCi g Y_X7_why [vr 22 0, vi s, vi la, vi i, vi n] M (fun z M' => z = wys M s.toNat la i n ∧ M' = M) := by
  refine fCi_of _ [some (vr 22 0), some (vi s), some (vi la), some (vi i), some (vi n)] (by decide) (Nat.le_of_ble_eq_true rfl) rfl (fun h => h) ?_
  refine st_aload_n dX7_why_0 rfl ?_
  refine st_getr (i' := 0) dX7_why_1 fl_X7_44 rfl rfl rfl (fun _ => by decide) ?_
  refine st_iload_n dX7_why_4 rfl ?_
  refine st_iald (j := s.toNat) dX7_why_5 rfl rfl rfl (by omega) (by omega) ?_
  refine st_if_ge 12 dX7_why_6 (by decide) (fun h6 => ?_) (fun h6 => ?_)
  · skip
    refine st_aload_n dX7_why_12 rfl ?_
    refine st_getr (i' := 0) dX7_why_13 fl_X7_44 rfl rfl rfl (fun _ => by decide) ?_
    refine st_iload_n dX7_why_16 rfl ?_
    refine st_iald (j := s.toNat) dX7_why_17 rfl rfl rfl (by omega) (by omega) ?_
    refine st_iload_n dX7_why_18 rfl ?_
    refine st_icmp_eq 25 dX7_why_19 (by decide) (fun h19 => ?_) (fun h19 => ?_)
    · skip
      refine fAt_rk 3 rfl (fun r3 => ?_)
      refine st_iload_n dX7_why_25 rfl ?_
      refine st_if_lt 42 dX7_why_26 (by decide) (fun h26 => ?_) (fun h26 => ?_)
      · skip
        refine st_bipush dX7_why_42 (by decide) ?_
        refine st_goto 48 dX7_why_44 (by decide) ?_
        refine st_ireturn dX7_why_48 rfl ⟨_, rfl, ⟨?_, rfl⟩⟩
        unfold wys; rw [if_neg (by omega), if_neg (by omega)]
        first | (rw [if_pos (by omega)]; done) | rw [if_neg (by omega)]
      · skip
        refine st_iload dX7_why_29 rfl ?_
        refine st_aload_n dX7_why_31 rfl ?_
        refine st_getr (i' := 0) dX7_why_32 fl_X7_47 rfl rfl rfl (fun _ => by decide) ?_
        refine st_iload_n dX7_why_35 rfl ?_
        refine st_iald (j := s.toNat) dX7_why_36 rfl rfl rfl (by omega) (by omega) ?_
        refine st_iload_n dX7_why_37 rfl ?_
        refine st_isub dX7_why_38 (by have := hz s.toNat (by omega); omega) ?_
        refine st_icmp_le 47 dX7_why_39 (by decide) (fun h39 => ?_) (fun h39 => ?_)
        · skip
          refine st_iconst dX7_why_47 (by decide) ?_
          refine st_ireturn dX7_why_48 rfl ⟨_, rfl, ⟨?_, rfl⟩⟩
          unfold wys; rw [if_neg (by omega), if_neg (by omega)]
          first | (rw [if_pos (by omega)]; done) | rw [if_neg (by omega)]
        · skip
          refine st_bipush dX7_why_42 (by decide) ?_
          refine st_goto 48 dX7_why_44 (by decide) ?_
          refine st_ireturn dX7_why_48 rfl ⟨_, rfl, ⟨?_, rfl⟩⟩
          unfold wys; rw [if_neg (by omega), if_neg (by omega)]
          first | (rw [if_pos (by omega)]; done) | rw [if_neg (by omega)]
    · skip
      refine st_bipush dX7_why_22 (by decide) ?_
      refine st_ireturn dX7_why_24 rfl ⟨_, rfl, ⟨?_, rfl⟩⟩
      unfold wys; rw [if_neg (by omega), if_pos (by omega)]
  · skip
    refine st_bipush dX7_why_9 (by decide) ?_
    refine st_ireturn dX7_why_11 rfl ⟨_, rfl, ⟨?_, rfl⟩⟩
    unfold wys; rw [if_pos (by omega)]
set_option maxHeartbeats 4000000 in
set_option maxRecDepth 100000 in
theorem m_item {g : fG} {M : fM} {s la i v : Int} (hz : mzL M) :
    fCi g Y_X7_item [vr 22 0, vi s, vi la, vi i, vl v] M (fun z M' => (mfs M s la i 1 ≠ 0 ∧ z = mfs M s la i 1 ∧ M' = M) ∨ (mfs M s la i 1 = 0 ∧ z = 1 ∧ M' = fup M 35 0 (24 * s.toNat + i.toNat) (lwb la v))) := by
  refine fCi_of _ [some (vr 22 0), some (vi s), some (vi la), some (vi i), some (vl v), none, none] (by decide) (Nat.le_of_ble_eq_true rfl) rfl (fun h => h) ?_
  refine st_iload_n dX7_item_0 rfl ?_
  refine st_callSi [vi s] [] dX7_item_1 sl_X7_203 rfl rfl (Nat.le_of_ble_eq_true rfl) (by decide) (m_isSheet) (fun za Ma qa => ?_)
  obtain ⟨qa, rfl⟩ := qa
  rcases qa with ⟨rfl, aa⟩ | ⟨rfl, aa⟩
  · skip
    refine st_if_eq 19 dX7_item_4 (by decide) (fun h4 => ?_) (fun h4 => ?_)
    · skip
      exact absurd h4 (by omega)
    · skip
      refine st_iload_n dX7_item_7 rfl ?_
      refine st_i2l dX7_item_8 ?_
      refine st_lconst0 dX7_item_9 ?_
      refine st_ldc2 (v := 3) (3) dX7_item_10 (ftb_in 995 (by decide +kernel) rfl) (by decide +kernel) ?_
      refine st_callSi [vl la, vl 0, vl 3] [] dX7_item_13 sl_X7_57 rfl rfl (Nat.le_of_ble_eq_true rfl) (by decide) (m_in) (fun zb Mb qb => ?_)
      obtain ⟨qb, rfl⟩ := qb
      rcases qb with ⟨rfl, ab⟩ | ⟨rfl, ab⟩
      · skip
        refine st_if_ne 21 dX7_item_16 (by decide) (fun h16 => ?_) (fun h16 => ?_)
        · skip
          refine st_aload_n dX7_item_21 rfl ?_
          refine st_iload_n dX7_item_22 rfl ?_
          refine st_iload_n dX7_item_23 rfl ?_
          refine st_iload_n dX7_item_24 rfl ?_
          refine st_iconst dX7_item_25 (by decide) ?_
          refine st_callVi [vi s, vi la, vi i, vi 1] [] dX7_item_26 vl_X7_206 rfl rfl rfl rfl (Nat.le_of_ble_eq_true rfl) (by decide) (m_why aa hz) (fun zw Mw qw => ?_)
          obtain ⟨rfl, q⟩ := qw
          subst Mw
          have hw0 := wys_s Mb s.toNat la i 1
          refine st_istore (ls' := [some (vr 22 0), some (vi s), some (vi la), some (vi i), some (vl v), none, some (vi (wys Mb s.toNat la i 1))]) dX7_item_29 (by decide) rfl rfl ?_
          refine st_iload dX7_item_31 rfl ?_
          refine st_if_ge 39 dX7_item_33 (by decide) (fun h33 => ?_) (fun h33 => ?_)
          · skip
            have hw1 := wys_0 (show wys Mb s.toNat la i 1 = 0 by omega)
            have h24 := (hz s.toNat (by omega)).2
            refine st_aload_n dX7_item_39 rfl ?_
            refine st_getr (i' := 0) dX7_item_40 fl_X7_50 rfl rfl rfl (fun _ => by decide) ?_
            refine st_bipush dX7_item_43 (by decide) ?_
            refine st_iload_n dX7_item_45 rfl ?_
            refine st_imul dX7_item_46 (by omega) ?_
            refine st_iload_n dX7_item_47 rfl ?_
            refine st_iadd dX7_item_48 (by omega) ?_
            refine st_lload dX7_item_49 rfl ?_
            refine st_iload_n dX7_item_51 rfl ?_
            refine st_callSl [vl v, vi la] [vi ((24 * s) + i), vr 35 0] dX7_item_52 sl_X7_210 rfl rfl (Nat.le_of_ble_eq_true rfl) (by decide) (m_cutTo) (fun zl Ml ql => ?_)
            obtain ⟨rfl, q⟩ := ql
            subst Ml
            refine st_last (j := (24 * s.toNat + i.toNat)) dX7_item_55 rfl rfl rfl (by omega) (by omega) ?_
            refine st_iconst dX7_item_56 (by decide) ?_
            refine st_ireturn dX7_item_57 rfl ⟨_, rfl, Or.inr ⟨by rw [mfs_in aa (by omega)]; omega, rfl, rfl⟩⟩
          · skip
            refine st_iload dX7_item_36 rfl ?_
            refine st_ireturn dX7_item_38 rfl ⟨_, rfl, Or.inl ⟨by rw [mfs_in aa (by omega)]; omega, by rw [mfs_in aa (by omega)], rfl⟩⟩
        · skip
          exact absurd h16 (by omega)
      · skip
        refine st_if_ne 21 dX7_item_16 (by decide) (fun h16 => ?_) (fun h16 => ?_)
        · skip
          exact absurd h16 (by omega)
        · skip
          refine st_iconst dX7_item_19 (by decide) ?_
          refine st_ireturn dX7_item_20 rfl ⟨_, rfl, Or.inl ⟨by rw [mfs_out (by omega)]; decide, (mfs_out (by omega)).symm, rfl⟩⟩
  · skip
    refine st_if_eq 19 dX7_item_4 (by decide) (fun h4 => ?_) (fun h4 => ?_)
    · skip
      refine st_iconst dX7_item_19 (by decide) ?_
      refine st_ireturn dX7_item_20 rfl ⟨_, rfl, Or.inl ⟨by rw [mfs_out (by omega)]; decide, (mfs_out (by omega)).symm, rfl⟩⟩
    · skip
      exact absurd h4 (by omega)
def mcR (M : fM) (f i t j n : Int) : Int := if ¬ (0 ≤ f ∧ f < 4) ∨ ¬ (0 ≤ t ∧ t < 4) then -1 else if M 33 0 f.toNat < 0 ∨ M 33 0 t.toNat < 0 then -11 else if M 33 0 f.toNat ≠ M 33 0 t.toNat then -12 else if (0 ≤ i ∧ 0 ≤ n ∧ i + n ≤ M 34 0 f.toNat) ∧ (0 ≤ j ∧ 0 ≤ n ∧ j + n ≤ M 34 0 t.toNat) then 0 else -13
def mCp (M : fM) (o o2 n c : Nat) : fM := fun k a b => if k = 36 ∧ a = 0 ∧ b < n then M 35 0 (o + b) else if k = 35 ∧ a = 0 ∧ o2 ≤ b ∧ b < o2 + c then M 35 0 (o + (b - o2)) else M k a b
theorem mCp_0 (M : fM) (o o2 : Nat) : mCp M o o2 0 0 = M := by
  funext k a b
  unfold mCp
  rw [if_neg (by omega), if_neg (by omega)]
theorem mCp_n (M : fM) (o o2 n : Nat) : fup (mCp M o o2 n 0) 36 0 n (M 35 0 (o + n)) = mCp M o o2 (n + 1) 0 := by
  funext k a b
  simp only [mCp, fup]
  grind (splits := 40)
theorem mCp_c (M : fM) (o o2 n c : Nat) : fup (mCp M o o2 n c) 35 0 (o2 + c) (M 35 0 (o + c)) = mCp M o o2 n (c + 1) := by
  funext k a b
  simp only [mCp, fup]
  by_cases e : k = 35 ∧ a = 0 ∧ b = o2 + c
  · rw [if_pos e, if_neg (by omega), if_pos (by omega)]; congr 1; omega
  · rw [if_neg e]
    by_cases e2 : k = 36 ∧ a = 0 ∧ b < n
    · rw [if_pos e2, if_pos e2]
    · rw [if_neg e2, if_neg e2]
      by_cases e3 : k = 35 ∧ a = 0 ∧ o2 ≤ b ∧ b < o2 + c
      · rw [if_pos e3, if_pos (by omega)]
      · rw [if_neg e3, if_neg (by omega)]
set_option maxHeartbeats 4000000 in
set_option maxRecDepth 100000 in
theorem m_copy_2 {g : fG} {M : fM} {f i t j n0 : Nat} (hf : f < 4) (ht : t < 4) (hi : i + n0 ≤ 24) (hj : j + n0 ≤ 24) :
    ∀ (n c : Nat), c + n = n0 → fAt g Y_X7_copy 147 [some (vr 22 0), some (vi (f : Int)), some (vi (i : Int)), some (vi (t : Int)), some (vi (j : Int)), some (vi (n0 : Int)), some (vi (c : Int))] [] (mCp M (24 * f + i) (24 * t + j) n0 c) (fI (fun z M' => z = (n0 : Int) ∧ M' = mCp M (24 * f + i) (24 * t + j) n0 n0)) := by
  intro n
  induction n with
  | zero =>
    intro c hm
    refine st_iload dX7_copy_147 rfl ?_
    refine st_iload dX7_copy_149 rfl ?_
    refine st_icmp_ge 182 dX7_copy_151 (by decide) (fun h151 => ?_) (fun h151 => ?_)
    · skip
      refine st_iload dX7_copy_182 rfl ?_
      refine st_ireturn dX7_copy_184 rfl ⟨_, rfl, ⟨rfl, by rw [show c = n0 by omega]⟩⟩
    · skip
      exact absurd h151 (by omega)
  | succ n ih =>
    intro c hm
    refine st_iload dX7_copy_147 rfl ?_
    refine st_iload dX7_copy_149 rfl ?_
    refine st_icmp_ge 182 dX7_copy_151 (by decide) (fun h151 => ?_) (fun h151 => ?_)
    · skip
      exact absurd h151 (by omega)
    · skip
      refine st_aload_n dX7_copy_154 rfl ?_
      refine st_getr (i' := 0) dX7_copy_155 fl_X7_50 rfl rfl rfl (fun _ => by decide) ?_
      refine st_bipush dX7_copy_158 (by decide) ?_
      refine st_iload_n dX7_copy_160 rfl ?_
      refine st_imul dX7_copy_161 (by omega) ?_
      refine st_iload dX7_copy_162 rfl ?_
      refine st_iadd dX7_copy_164 (by omega) ?_
      refine st_iload dX7_copy_165 rfl ?_
      refine st_iadd dX7_copy_167 (by omega) ?_
      refine st_aload_n dX7_copy_168 rfl ?_
      refine st_getr (i' := 0) dX7_copy_169 fl_X7_54 rfl rfl rfl (fun _ => by decide) ?_
      refine st_iload dX7_copy_172 rfl ?_
      refine st_lald (j := c) dX7_copy_174 rfl rfl rfl rfl (by omega) ?_
      refine fAt_vl (x' := M 35 0 (24 * f + i + c)) (by unfold mCp; rw [if_pos ⟨rfl, rfl, by omega⟩]) ?_
      refine st_last (j := (24 * t + j + c)) dX7_copy_175 rfl rfl rfl (by omega) (by omega) ?_
      refine fAt_m (mCp_c M _ _ n0 c) ?_
      refine st_iinc (ls' := [some (vr 22 0), some (vi (f : Int)), some (vi (i : Int)), some (vi (t : Int)), some (vi (j : Int)), some (vi (n0 : Int)), some (vi ((c : Int) + 1))]) dX7_copy_176 rfl (by omega) (by decide) rfl rfl ?_
      refine st_goto 147 dX7_copy_179 (by decide) ?_
      exact ih (c + 1) (by omega)
set_option maxHeartbeats 4000000 in
set_option maxRecDepth 100000 in
theorem m_copy_1 {g : fG} {M : fM} {f i t j n0 : Nat} (hf : f < 4) (ht : t < 4) (hi : i + n0 ≤ 24) (hj : j + n0 ≤ 24) :
    ∀ (n c : Nat), c + n = n0 → fAt g Y_X7_copy 110 [some (vr 22 0), some (vi (f : Int)), some (vi (i : Int)), some (vi (t : Int)), some (vi (j : Int)), some (vi (n0 : Int)), some (vi (c : Int))] [] (mCp M (24 * f + i) (24 * t + j) c 0) (fI (fun z M' => z = (n0 : Int) ∧ M' = mCp M (24 * f + i) (24 * t + j) n0 n0)) := by
  intro n
  induction n with
  | zero =>
    intro c hm
    refine st_iload dX7_copy_110 rfl ?_
    refine st_iload dX7_copy_112 rfl ?_
    refine st_icmp_ge 144 dX7_copy_114 (by decide) (fun h114 => ?_) (fun h114 => ?_)
    · skip
      refine st_iconst dX7_copy_144 (by decide) ?_
      refine st_istore (ls' := [some (vr 22 0), some (vi (f : Int)), some (vi (i : Int)), some (vi (t : Int)), some (vi (j : Int)), some (vi (n0 : Int)), some (vi 0)]) dX7_copy_145 (by decide) rfl rfl ?_
      refine fAt_m (show _ = mCp M (24 * f + i) (24 * t + j) n0 0 from by rw [show c = n0 by omega]) ?_
      exact m_copy_2 hf ht hi hj n0 0 (by omega)
    · skip
      exact absurd h114 (by omega)
  | succ n ih =>
    intro c hm
    refine st_iload dX7_copy_110 rfl ?_
    refine st_iload dX7_copy_112 rfl ?_
    refine st_icmp_ge 144 dX7_copy_114 (by decide) (fun h114 => ?_) (fun h114 => ?_)
    · skip
      exact absurd h114 (by omega)
    · skip
      refine st_aload_n dX7_copy_117 rfl ?_
      refine st_getr (i' := 0) dX7_copy_118 fl_X7_54 rfl rfl rfl (fun _ => by decide) ?_
      refine st_iload dX7_copy_121 rfl ?_
      refine st_aload_n dX7_copy_123 rfl ?_
      refine st_getr (i' := 0) dX7_copy_124 fl_X7_50 rfl rfl rfl (fun _ => by decide) ?_
      refine st_bipush dX7_copy_127 (by decide) ?_
      refine st_iload_n dX7_copy_129 rfl ?_
      refine st_imul dX7_copy_130 (by omega) ?_
      refine st_iload_n dX7_copy_131 rfl ?_
      refine st_iadd dX7_copy_132 (by omega) ?_
      refine st_iload dX7_copy_133 rfl ?_
      refine st_iadd dX7_copy_135 (by omega) ?_
      refine st_lald (j := (24 * f + i + c)) dX7_copy_136 rfl rfl rfl (by omega) (by omega) ?_
      refine fAt_vl (x' := M 35 0 (24 * f + i + c)) (by unfold mCp; rw [if_neg (by omega), if_neg (by omega)]) ?_
      refine st_last (j := c) dX7_copy_137 rfl rfl rfl rfl (by omega) ?_
      refine fAt_m (mCp_n M _ _ c) ?_
      refine st_iinc (ls' := [some (vr 22 0), some (vi (f : Int)), some (vi (i : Int)), some (vi (t : Int)), some (vi (j : Int)), some (vi (n0 : Int)), some (vi ((c : Int) + 1))]) dX7_copy_138 rfl (by omega) (by decide) rfl rfl ?_
      refine st_goto 110 dX7_copy_141 (by decide) ?_
      exact ih (c + 1) (by omega)
set_option maxHeartbeats 4000000 in
set_option maxRecDepth 100000 in
theorem m_copy {g : fG} {M : fM} {f i t j n : Int} (hz : mzL M) :
    fCi g Y_X7_copy [vr 22 0, vi f, vi i, vi t, vi j, vi n] M (fun z M' => (mcR M f i t j n ≠ 0 ∧ z = mcR M f i t j n ∧ M' = M) ∨ (mcR M f i t j n = 0 ∧ z = n ∧ M' = mCp M (24 * f.toNat + i.toNat) (24 * t.toNat + j.toNat) n.toNat n.toNat)) := by
  refine fCi_of _ [some (vr 22 0), some (vi f), some (vi i), some (vi t), some (vi j), some (vi n), none] (by decide) (Nat.le_of_ble_eq_true rfl) rfl (fun h => h) ?_
  refine st_iload_n dX7_copy_0 rfl ?_
  refine st_callSi [vi f] [] dX7_copy_1 sl_X7_203 rfl rfl (Nat.le_of_ble_eq_true rfl) (by decide) (m_isSheet) (fun za Ma qa => ?_)
  obtain ⟨qa, rfl⟩ := qa
  rcases qa with ⟨rfl, aa⟩ | ⟨rfl, aa⟩
  · skip
    refine st_if_eq 14 dX7_copy_4 (by decide) (fun h4 => ?_) (fun h4 => ?_)
    · skip
      exact absurd h4 (by omega)
    · skip
      refine st_iload_n dX7_copy_7 rfl ?_
      refine st_callSi [vi t] [] dX7_copy_8 sl_X7_203 rfl rfl (Nat.le_of_ble_eq_true rfl) (by decide) (m_isSheet) (fun zb Mb qb => ?_)
      obtain ⟨qb, rfl⟩ := qb
      rcases qb with ⟨rfl, ab⟩ | ⟨rfl, ab⟩
      · skip
        refine st_if_ne 16 dX7_copy_11 (by decide) (fun h11 => ?_) (fun h11 => ?_)
        · skip
          refine st_aload_n dX7_copy_16 rfl ?_
          refine st_getr (i' := 0) dX7_copy_17 fl_X7_44 rfl rfl rfl (fun _ => by decide) ?_
          refine st_iload_n dX7_copy_20 rfl ?_
          refine st_iald (j := f.toNat) dX7_copy_21 rfl rfl rfl (by omega) (by omega) ?_
          refine st_if_lt 34 dX7_copy_22 (by decide) (fun h22 => ?_) (fun h22 => ?_)
          · skip
            refine st_bipush dX7_copy_34 (by decide) ?_
            refine st_ireturn dX7_copy_36 rfl ⟨_, rfl, Or.inl ⟨?_, ?_, rfl⟩⟩
            · unfold mcR; rw [if_neg (by omega), if_pos (by omega)]; decide
            · unfold mcR; rw [if_neg (by omega), if_pos (by omega)]
          · skip
            refine st_aload_n dX7_copy_25 rfl ?_
            refine st_getr (i' := 0) dX7_copy_26 fl_X7_44 rfl rfl rfl (fun _ => by decide) ?_
            refine st_iload_n dX7_copy_29 rfl ?_
            refine st_iald (j := t.toNat) dX7_copy_30 rfl rfl rfl (by omega) (by omega) ?_
            refine st_if_ge 37 dX7_copy_31 (by decide) (fun h31 => ?_) (fun h31 => ?_)
            · skip
              refine st_aload_n dX7_copy_37 rfl ?_
              refine st_getr (i' := 0) dX7_copy_38 fl_X7_44 rfl rfl rfl (fun _ => by decide) ?_
              refine st_iload_n dX7_copy_41 rfl ?_
              refine st_iald (j := f.toNat) dX7_copy_42 rfl rfl rfl (by omega) (by omega) ?_
              refine st_aload_n dX7_copy_43 rfl ?_
              refine st_getr (i' := 0) dX7_copy_44 fl_X7_44 rfl rfl rfl (fun _ => by decide) ?_
              refine st_iload_n dX7_copy_47 rfl ?_
              refine st_iald (j := t.toNat) dX7_copy_48 rfl rfl rfl (by omega) (by omega) ?_
              refine st_icmp_eq 55 dX7_copy_49 (by decide) (fun h49 => ?_) (fun h49 => ?_)
              · skip
                refine fAt_rk 2 rfl (fun r2 => ?_)
                refine fAt_rk 4 rfl (fun r4 => ?_)
                refine fAt_rk 5 rfl (fun r5 => ?_)
                have hz1 := hz f.toNat (by omega)
                have hz2 := hz t.toNat (by omega)
                refine st_iload dX7_copy_55 rfl ?_
                refine st_if_lt 104 dX7_copy_57 (by decide) (fun h57 => ?_) (fun h57 => ?_)
                · skip
                  refine st_bipush dX7_copy_104 (by decide) ?_
                  refine st_ireturn dX7_copy_106 rfl ⟨_, rfl, Or.inl ⟨?_, ?_, rfl⟩⟩
                  · unfold mcR; rw [if_neg (by omega), if_neg (by omega), if_neg (by omega), if_neg (by omega)]; decide
                  · unfold mcR; rw [if_neg (by omega), if_neg (by omega), if_neg (by omega), if_neg (by omega)]
                · skip
                  refine st_iload_n dX7_copy_60 rfl ?_
                  refine st_if_lt 104 dX7_copy_61 (by decide) (fun h61 => ?_) (fun h61 => ?_)
                  · skip
                    refine st_bipush dX7_copy_104 (by decide) ?_
                    refine st_ireturn dX7_copy_106 rfl ⟨_, rfl, Or.inl ⟨?_, ?_, rfl⟩⟩
                    · unfold mcR; rw [if_neg (by omega), if_neg (by omega), if_neg (by omega), if_neg (by omega)]; decide
                    · unfold mcR; rw [if_neg (by omega), if_neg (by omega), if_neg (by omega), if_neg (by omega)]
                  · skip
                    refine st_iload dX7_copy_64 rfl ?_
                    refine st_if_lt 104 dX7_copy_66 (by decide) (fun h66 => ?_) (fun h66 => ?_)
                    · skip
                      refine st_bipush dX7_copy_104 (by decide) ?_
                      refine st_ireturn dX7_copy_106 rfl ⟨_, rfl, Or.inl ⟨?_, ?_, rfl⟩⟩
                      · unfold mcR; rw [if_neg (by omega), if_neg (by omega), if_neg (by omega), if_neg (by omega)]; decide
                      · unfold mcR; rw [if_neg (by omega), if_neg (by omega), if_neg (by omega), if_neg (by omega)]
                    · skip
                      refine st_iload_n dX7_copy_69 rfl ?_
                      refine st_i2l dX7_copy_70 ?_
                      refine st_iload dX7_copy_71 rfl ?_
                      refine st_i2l dX7_copy_73 ?_
                      refine st_ladd dX7_copy_74 (by omega) ?_
                      refine st_aload_n dX7_copy_75 rfl ?_
                      refine st_getr (i' := 0) dX7_copy_76 fl_X7_47 rfl rfl rfl (fun _ => by decide) ?_
                      refine st_iload_n dX7_copy_79 rfl ?_
                      refine st_iald (j := f.toNat) dX7_copy_80 rfl rfl rfl (by omega) (by omega) ?_
                      refine st_i2l dX7_copy_81 ?_
                      refine st_lcmp dX7_copy_82 ?_
                      refine st_if_gt 104 dX7_copy_83 (by decide) (fun h83 => ?_) (fun h83 => ?_)
                      · skip
                        have h83 := fcmp_gt.mp h83
                        refine st_bipush dX7_copy_104 (by decide) ?_
                        refine st_ireturn dX7_copy_106 rfl ⟨_, rfl, Or.inl ⟨?_, ?_, rfl⟩⟩
                        · unfold mcR; rw [if_neg (by omega), if_neg (by omega), if_neg (by omega), if_neg (by omega)]; decide
                        · unfold mcR; rw [if_neg (by omega), if_neg (by omega), if_neg (by omega), if_neg (by omega)]
                      · skip
                        have h83 : ¬ Mb 34 0 f.toNat < i + n := fun q => absurd (fcmp_gt.mpr q) (by omega)
                        refine st_iload dX7_copy_86 rfl ?_
                        refine st_i2l dX7_copy_88 ?_
                        refine st_iload dX7_copy_89 rfl ?_
                        refine st_i2l dX7_copy_91 ?_
                        refine st_ladd dX7_copy_92 (by omega) ?_
                        refine st_aload_n dX7_copy_93 rfl ?_
                        refine st_getr (i' := 0) dX7_copy_94 fl_X7_47 rfl rfl rfl (fun _ => by decide) ?_
                        refine st_iload_n dX7_copy_97 rfl ?_
                        refine st_iald (j := t.toNat) dX7_copy_98 rfl rfl rfl (by omega) (by omega) ?_
                        refine st_i2l dX7_copy_99 ?_
                        refine st_lcmp dX7_copy_100 ?_
                        refine st_if_le 107 dX7_copy_101 (by decide) (fun h101 => ?_) (fun h101 => ?_)
                        · skip
                          have h101 : ¬ Mb 34 0 t.toNat < j + n := fun q => absurd (fcmp_gt.mpr q) (by omega)
                          refine st_iconst dX7_copy_107 (by decide) ?_
                          refine st_istore (ls' := [some (vr 22 0), some (vi f), some (vi i), some (vi t), some (vi j), some (vi n), some (vi 0)]) dX7_copy_108 (by decide) rfl rfl ?_
                          refine fAt_ls (ls' := [some (vr 22 0), some (vi ((f.toNat : Nat) : Int)), some (vi ((i.toNat : Nat) : Int)), some (vi ((t.toNat : Nat) : Int)), some (vi ((j.toNat : Nat) : Int)), some (vi ((n.toNat : Nat) : Int)), some (vi ((0 : Nat) : Int))]) (by rw [show ((f.toNat : Nat) : Int) = f by omega, show ((i.toNat : Nat) : Int) = i by omega, show ((t.toNat : Nat) : Int) = t by omega, show ((j.toNat : Nat) : Int) = j by omega, show ((n.toNat : Nat) : Int) = n by omega]; rfl) ?_
                          refine fAt_m (mCp_0 _ (24 * f.toNat + i.toNat) (24 * t.toNat + j.toNat)).symm ?_
                          refine fAt_q (fun r M' h => ?_) (m_copy_1 (f := f.toNat) (i := i.toNat) (t := t.toNat) (j := j.toNat) (n0 := n.toNat) (by omega) (by omega) (by omega) (by omega) n.toNat 0 (by omega))
                          obtain ⟨z, e, h1, h2⟩ := h
                          refine ⟨z, e, Or.inr ⟨?_, by omega, h2⟩⟩
                          unfold mcR
                          rw [if_neg (by omega), if_neg (by omega), if_neg (by omega), if_pos (by omega)]
                        · skip
                          have h101 : Mb 34 0 t.toNat < j + n := fcmp_gt.mp (by omega)
                          refine st_bipush dX7_copy_104 (by decide) ?_
                          refine st_ireturn dX7_copy_106 rfl ⟨_, rfl, Or.inl ⟨?_, ?_, rfl⟩⟩
                          · unfold mcR; rw [if_neg (by omega), if_neg (by omega), if_neg (by omega), if_neg (by omega)]; decide
                          · unfold mcR; rw [if_neg (by omega), if_neg (by omega), if_neg (by omega), if_neg (by omega)]
              · skip
                refine st_bipush dX7_copy_52 (by decide) ?_
                refine st_ireturn dX7_copy_54 rfl ⟨_, rfl, Or.inl ⟨?_, ?_, rfl⟩⟩
                · unfold mcR; rw [if_neg (by omega), if_neg (by omega), if_pos (by omega)]; decide
                · unfold mcR; rw [if_neg (by omega), if_neg (by omega), if_pos (by omega)]
            · skip
              refine st_bipush dX7_copy_34 (by decide) ?_
              refine st_ireturn dX7_copy_36 rfl ⟨_, rfl, Or.inl ⟨?_, ?_, rfl⟩⟩
              · unfold mcR; rw [if_neg (by omega), if_pos (by omega)]; decide
              · unfold mcR; rw [if_neg (by omega), if_pos (by omega)]
        · skip
          exact absurd h11 (by omega)
      · skip
        refine st_if_ne 16 dX7_copy_11 (by decide) (fun h11 => ?_) (fun h11 => ?_)
        · skip
          exact absurd h11 (by omega)
        · skip
          refine st_iconst dX7_copy_14 (by decide) ?_
          refine st_ireturn dX7_copy_15 rfl ⟨_, rfl, Or.inl ⟨?_, ?_, rfl⟩⟩
          · unfold mcR; rw [if_pos (by omega)]; decide
          · unfold mcR; rw [if_pos (by omega)]
  · skip
    refine st_if_eq 14 dX7_copy_4 (by decide) (fun h4 => ?_) (fun h4 => ?_)
    · skip
      refine st_iconst dX7_copy_14 (by decide) ?_
      refine st_ireturn dX7_copy_15 rfl ⟨_, rfl, Or.inl ⟨?_, ?_, rfl⟩⟩
      · unfold mcR; rw [if_pos (by omega)]; decide
      · unfold mcR; rw [if_pos (by omega)]
    · skip
      exact absurd h4 (by omega)
set_option maxHeartbeats 4000000 in
set_option maxRecDepth 100000 in
theorem m_areNumbers_l {g : fG} {M : fM} {p : Int} (hp : M 23 0 2 = p) (hp2 : 2 ≤ p ∧ p ≤ 97) {o m : Nat} (ho : o + m ≤ 96) :
    ∀ (n : Nat) (c : Nat) (z : Int), c + n = m → ((z = 1 ∧ nmS p (fun c => M 35 0 (o + c)) c) ∨ (z = 0 ∧ ¬ nmS p (fun c => M 35 0 (o + c)) c)) → fAt g Y_X7_areNumbers 5 [some (vr 22 0), some (vi (o : Int)), some (vi (m : Int)), some (vi z), some (vi (c : Int))] [] M (fI (fun z M' => ((z = 1 ∧ nmS p (fun c => M 35 0 (o + c)) m) ∨ (z = 0 ∧ ¬ nmS p (fun c => M 35 0 (o + c)) m)) ∧ M' = M)) := by
  intro n
  induction n with
  | zero =>
    intro c z hm hz
    refine st_iload dX7_areNumbers_5 rfl ?_
    refine st_iload_n dX7_areNumbers_7 rfl ?_
    refine st_icmp_ge 43 dX7_areNumbers_8 (by decide) (fun h8 => ?_) (fun h8 => ?_)
    · skip
      refine st_iload_n dX7_areNumbers_43 rfl ?_
      refine st_zreturn dX7_areNumbers_44 rfl (by omega) ⟨_, rfl, ⟨by rw [show m = c by omega]; exact hz, rfl⟩⟩
    · skip
      exact absurd h8 (by omega)
  | succ n ih =>
    intro c z hm hz
    refine st_iload dX7_areNumbers_5 rfl ?_
    refine st_iload_n dX7_areNumbers_7 rfl ?_
    refine st_icmp_ge 43 dX7_areNumbers_8 (by decide) (fun h8 => ?_) (fun h8 => ?_)
    · skip
      exact absurd h8 (by omega)
    · skip
      refine st_iload_n dX7_areNumbers_11 rfl ?_
      refine st_if_eq 35 dX7_areNumbers_12 (by decide) (fun h12 => ?_) (fun h12 => ?_)
      · skip
        refine st_iconst dX7_areNumbers_35 (by decide) ?_
        refine st_istore_n (ls' := [some (vr 22 0), some (vi (o : Int)), some (vi (m : Int)), some (vi 0), some (vi (c : Int))]) dX7_areNumbers_36 (by decide) rfl rfl ?_
        refine st_iinc (ls' := [some (vr 22 0), some (vi (o : Int)), some (vi (m : Int)), some (vi 0), some (vi ((c : Int) + 1))]) dX7_areNumbers_37 rfl (by omega) (by decide) rfl rfl ?_
        refine st_goto 5 dX7_areNumbers_40 (by decide) ?_
        first
        | exact ih (c + 1) 1 (by omega) (Or.inl ⟨rfl, by
            rcases hz with ⟨_, h⟩ | ⟨h, _⟩
            · intro q hq
              by_cases e : q = c
              · rw [e]; exact aa
              · exact h q (by omega)
            · exact absurd h (by omega)⟩)
        | exact ih (c + 1) 0 (by omega) (Or.inr ⟨rfl, fun h => aa (h c (by omega))⟩)
        | exact ih (c + 1) 0 (by omega) (Or.inr ⟨rfl, fun h => by
            rcases hz with ⟨h1, _⟩ | ⟨_, h1⟩
            · omega
            · exact h1 (fun q hq => h q (by omega))⟩)
      · skip
        refine st_aload_n dX7_areNumbers_15 rfl ?_
        refine st_aload_n dX7_areNumbers_16 rfl ?_
        refine st_getr (i' := 0) dX7_areNumbers_17 fl_X7_50 rfl rfl rfl (fun _ => by decide) ?_
        refine st_iload_n dX7_areNumbers_20 rfl ?_
        refine st_iload dX7_areNumbers_21 rfl ?_
        refine st_iadd dX7_areNumbers_23 (by omega) ?_
        refine st_lald (j := (o + c)) dX7_areNumbers_24 rfl rfl rfl (by omega) (by omega) ?_
        refine st_callVi [vl (M 35 0 (o + c))] [] dX7_areNumbers_25 vl_X7_146 rfl rfl rfl rfl (Nat.le_of_ble_eq_true rfl) (by decide) (m_isNumber hp hp2) (fun za Ma qa => ?_)
        obtain ⟨qa, q⟩ := qa
        subst Ma
        rcases qa with ⟨rfl, aa⟩ | ⟨rfl, aa⟩
        · skip
          refine st_if_eq 35 dX7_areNumbers_28 (by decide) (fun h28 => ?_) (fun h28 => ?_)
          · skip
            exact absurd h28 (by omega)
          · skip
            refine st_iconst dX7_areNumbers_31 (by decide) ?_
            refine st_goto 36 dX7_areNumbers_32 (by decide) ?_
            refine st_istore_n (ls' := [some (vr 22 0), some (vi (o : Int)), some (vi (m : Int)), some (vi 1), some (vi (c : Int))]) dX7_areNumbers_36 (by decide) rfl rfl ?_
            refine st_iinc (ls' := [some (vr 22 0), some (vi (o : Int)), some (vi (m : Int)), some (vi 1), some (vi ((c : Int) + 1))]) dX7_areNumbers_37 rfl (by omega) (by decide) rfl rfl ?_
            refine st_goto 5 dX7_areNumbers_40 (by decide) ?_
            first
            | exact ih (c + 1) 1 (by omega) (Or.inl ⟨rfl, by
                rcases hz with ⟨_, h⟩ | ⟨h, _⟩
                · intro q hq
                  by_cases e : q = c
                  · rw [e]; exact aa
                  · exact h q (by omega)
                · exact absurd h (by omega)⟩)
            | exact ih (c + 1) 0 (by omega) (Or.inr ⟨rfl, fun h => aa (h c (by omega))⟩)
            | exact ih (c + 1) 0 (by omega) (Or.inr ⟨rfl, fun h => by
                rcases hz with ⟨h1, _⟩ | ⟨_, h1⟩
                · omega
                · exact h1 (fun q hq => h q (by omega))⟩)
        · skip
          refine st_if_eq 35 dX7_areNumbers_28 (by decide) (fun h28 => ?_) (fun h28 => ?_)
          · skip
            refine st_iconst dX7_areNumbers_35 (by decide) ?_
            refine st_istore_n (ls' := [some (vr 22 0), some (vi (o : Int)), some (vi (m : Int)), some (vi 0), some (vi (c : Int))]) dX7_areNumbers_36 (by decide) rfl rfl ?_
            refine st_iinc (ls' := [some (vr 22 0), some (vi (o : Int)), some (vi (m : Int)), some (vi 0), some (vi ((c : Int) + 1))]) dX7_areNumbers_37 rfl (by omega) (by decide) rfl rfl ?_
            refine st_goto 5 dX7_areNumbers_40 (by decide) ?_
            first
            | exact ih (c + 1) 1 (by omega) (Or.inl ⟨rfl, by
                rcases hz with ⟨_, h⟩ | ⟨h, _⟩
                · intro q hq
                  by_cases e : q = c
                  · rw [e]; exact aa
                  · exact h q (by omega)
                · exact absurd h (by omega)⟩)
            | exact ih (c + 1) 0 (by omega) (Or.inr ⟨rfl, fun h => aa (h c (by omega))⟩)
            | exact ih (c + 1) 0 (by omega) (Or.inr ⟨rfl, fun h => by
                rcases hz with ⟨h1, _⟩ | ⟨_, h1⟩
                · omega
                · exact h1 (fun q hq => h q (by omega))⟩)
          · skip
            exact absurd rfl h28
set_option maxHeartbeats 4000000 in
set_option maxRecDepth 100000 in
theorem m_areNumbers {g : fG} {M : fM} {p : Int} (hp : M 23 0 2 = p) (hp2 : 2 ≤ p ∧ p ≤ 97) {o m : Nat} (ho : o + m ≤ 96) :
    fCi g Y_X7_areNumbers [vr 22 0, vi (o : Int), vi (m : Int)] M (fun z M' => ((z = 1 ∧ nmS p (fun c => M 35 0 (o + c)) m) ∨ (z = 0 ∧ ¬ nmS p (fun c => M 35 0 (o + c)) m)) ∧ M' = M) := by
  refine fCi_of _ [some (vr 22 0), some (vi (o : Int)), some (vi (m : Int)), none, none] (by decide) (Nat.le_of_ble_eq_true rfl) rfl (fun h => h) ?_
  refine st_iconst dX7_areNumbers_0 (by decide) ?_
  refine st_istore_n (ls' := [some (vr 22 0), some (vi (o : Int)), some (vi (m : Int)), some (vi 1), none]) dX7_areNumbers_1 (by decide) rfl rfl ?_
  refine st_iconst dX7_areNumbers_2 (by decide) ?_
  refine st_istore (ls' := [some (vr 22 0), some (vi (o : Int)), some (vi (m : Int)), some (vi 1), some (vi 0)]) dX7_areNumbers_3 (by decide) rfl rfl ?_
  exact m_areNumbers_l hp hp2 ho m 0 1 (by omega) (Or.inl ⟨rfl, fun q hq => absurd hq (by omega)⟩)
set_option maxHeartbeats 4000000 in
set_option maxRecDepth 100000 in
theorem m_comes_l {g : fG} {M : fM} {w : Nat} {p : Int} (hn : nOk M w p) {kd : Int} {o r : Nat} (hkd : 0 ≤ kd ∧ kd ≤ 4) (ho : o + w ≤ 96) (hr : r < w) (hx : nmS p (fun c => M 35 0 (o + c)) w) :
    ∀ (n c : Nat), c + n = w → fAt g Y_X7_comes 6 [some (vr 22 0), some (vi kd), some (vi (o : Int)), some (vi (r : Int)), some (vl (sm c (fun q => ent p w kd (lL M) r q * M 35 0 (o + q)))), none, some (vi (c : Int))] [] M (fI (fun z M' => z = rtS p w (ent p w kd (lL M)) (fun c => M 35 0 (o + c)) r ∧ M' = M)) := by
  have hw1 := hn.2.2.2.1
  have hp2 := hn.2.2.1.1
  intro n
  induction n with
  | zero =>
    intro c hm
    refine st_iload dX7_comes_6 rfl ?_
    refine st_aload_n dX7_comes_8 rfl ?_
    refine st_getr (i' := 0) dX7_comes_9 fl_X7_7 rfl rfl rfl (fun _ => by decide) ?_
    refine st_iconst dX7_comes_12 (by decide) ?_
    refine st_iald (j := 0) dX7_comes_13 rfl rfl rfl rfl (by decide) ?_
    refine fAt_v (x' := (w : Int)) hn.1 ?_
    refine st_icmp_ge 47 dX7_comes_14 (by decide) (fun h14 => ?_) (fun h14 => ?_)
    · skip
      have hbs := sm_b (f := fun q => ent p w kd (lL M) r q * M 35 0 (o + q)) (n := c) (fun q hq => mulb (a := 97) (b := 97) (ent_rng (by omega) hn.2.2.2.2.2.1 hr (by omega)).1 (hx q (by omega)).1 (by have := (ent_rng (kind := kd) (p := p) (by omega) hn.2.2.2.2.2.1 hr (show q < w by omega)).2; omega) (by have h : M 35 0 (o + q) < p := (hx q (by omega)).2; omega))
      have hmb := modb (x := sm c (fun q => ent p w kd (lL M) r q * M 35 0 (o + q))) (p := p) (by omega)
      refine st_lload dX7_comes_47 rfl ?_
      refine st_aload_n dX7_comes_49 rfl ?_
      refine st_getr (i' := 0) dX7_comes_50 fl_X7_7 rfl rfl rfl (fun _ => by decide) ?_
      refine st_iconst dX7_comes_53 (by decide) ?_
      refine st_iald (j := 2) dX7_comes_54 rfl rfl rfl rfl (by decide) ?_
      refine fAt_v (x' := p) hn.2.1 ?_
      refine st_i2l dX7_comes_55 ?_
      refine st_lrem dX7_comes_56 (by omega) (by omega) ?_
      refine st_l2i dX7_comes_57 (by omega) ?_
      refine st_ireturn dX7_comes_58 rfl ⟨_, rfl, ⟨by unfold rtS; rw [show w = c by omega], rfl⟩⟩
    · skip
      exact absurd h14 (by omega)
  | succ n ih =>
    intro c hm
    refine st_iload dX7_comes_6 rfl ?_
    refine st_aload_n dX7_comes_8 rfl ?_
    refine st_getr (i' := 0) dX7_comes_9 fl_X7_7 rfl rfl rfl (fun _ => by decide) ?_
    refine st_iconst dX7_comes_12 (by decide) ?_
    refine st_iald (j := 0) dX7_comes_13 rfl rfl rfl rfl (by decide) ?_
    refine fAt_v (x' := (w : Int)) hn.1 ?_
    refine st_icmp_ge 47 dX7_comes_14 (by decide) (fun h14 => ?_) (fun h14 => ?_)
    · skip
      exact absurd h14 (by omega)
    · skip
      have hbs := sm_b (f := fun q => ent p w kd (lL M) r q * M 35 0 (o + q)) (n := c) (fun q hq => mulb (a := 97) (b := 97) (ent_rng (by omega) hn.2.2.2.2.2.1 hr (by omega)).1 (hx q (by omega)).1 (by have := (ent_rng (kind := kd) (p := p) (by omega) hn.2.2.2.2.2.1 hr (show q < w by omega)).2; omega) (by have h : M 35 0 (o + q) < p := (hx q (by omega)).2; omega))
      have hb2 := mulb (x := ent p w kd (lL M) r c) (y := M 35 0 (o + c)) (a := 97) (b := 97) (ent_rng (by omega) hn.2.2.2.2.2.1 hr (by omega)).1 (hx c (by omega)).1 (by have := (ent_rng (kind := kd) (p := p) (by omega) hn.2.2.2.2.2.1 hr (show c < w by omega)).2; omega) (by have h : M 35 0 (o + c) < p := (hx c (by omega)).2; omega)
      refine st_lload dX7_comes_17 rfl ?_
      refine st_aload_n dX7_comes_19 rfl ?_
      refine st_iload_n dX7_comes_20 rfl ?_
      refine st_iload_n dX7_comes_21 rfl ?_
      refine st_iload dX7_comes_22 rfl ?_
      refine st_callVi [vi kd, vi (r : Int), vi (c : Int)] [vl (sm c (fun q => ent p w kd (lL M) r q * M 35 0 (o + q)))] dX7_comes_24 vl_X7_65 rfl rfl rfl rfl (Nat.le_of_ble_eq_true rfl) (by decide) (m_entryBy hn hr (by omega) (kd5 hkd)) (fun ze Me qe => ?_)
      obtain ⟨rfl, q⟩ := qe
      subst Me
      refine st_i2l dX7_comes_27 ?_
      refine st_aload_n dX7_comes_28 rfl ?_
      refine st_getr (i' := 0) dX7_comes_29 fl_X7_50 rfl rfl rfl (fun _ => by decide) ?_
      refine st_iload_n dX7_comes_32 rfl ?_
      refine st_iload dX7_comes_33 rfl ?_
      refine st_iadd dX7_comes_35 (by omega) ?_
      refine st_lald (j := (o + c)) dX7_comes_36 rfl rfl rfl (by omega) (by omega) ?_
      refine st_lmul dX7_comes_37 (by omega) ?_
      refine st_ladd dX7_comes_38 (by omega) ?_
      refine st_lstore (ls' := [some (vr 22 0), some (vi kd), some (vi (o : Int)), some (vi (r : Int)), some (vl ((sm c (fun q => ent p w kd (lL M) r q * M 35 0 (o + q))) + ((ent p w kd (lL M) r c) * (M 35 0 (o + c))))), none, some (vi (c : Int))]) dX7_comes_39 (by decide) rfl rfl ?_
      refine st_iinc (ls' := [some (vr 22 0), some (vi kd), some (vi (o : Int)), some (vi (r : Int)), some (vl ((sm c (fun q => ent p w kd (lL M) r q * M 35 0 (o + q))) + ((ent p w kd (lL M) r c) * (M 35 0 (o + c))))), none, some (vi ((c : Int) + 1))]) dX7_comes_41 rfl (by omega) (by decide) rfl rfl ?_
      refine st_goto 6 dX7_comes_44 (by decide) ?_
      exact ih (c + 1) (by omega)
set_option maxHeartbeats 4000000 in
set_option maxRecDepth 100000 in
theorem m_comes {g : fG} {M : fM} {w : Nat} {p : Int} (hn : nOk M w p) {kd : Int} {o r : Nat} (hkd : 0 ≤ kd ∧ kd ≤ 4) (ho : o + w ≤ 96) (hr : r < w) (hx : nmS p (fun c => M 35 0 (o + c)) w) :
    fCi g Y_X7_comes [vr 22 0, vi kd, vi (o : Int), vi (r : Int)] M (fun z M' => z = rtS p w (ent p w kd (lL M)) (fun c => M 35 0 (o + c)) r ∧ M' = M) := by
  have hw1 := hn.2.2.2.1
  have hp2 := hn.2.2.1.1
  refine fCi_of _ [some (vr 22 0), some (vi kd), some (vi (o : Int)), some (vi (r : Int)), none, none, none] (by decide) (Nat.le_of_ble_eq_true rfl) rfl (fun h => h) ?_
  refine st_lconst0 dX7_comes_0 ?_
  refine st_lstore (ls' := [some (vr 22 0), some (vi kd), some (vi (o : Int)), some (vi (r : Int)), some (vl 0), none, none]) dX7_comes_1 (by decide) rfl rfl ?_
  refine st_iconst dX7_comes_3 (by decide) ?_
  refine st_istore (ls' := [some (vr 22 0), some (vi kd), some (vi (o : Int)), some (vi (r : Int)), some (vl 0), none, some (vi 0)]) dX7_comes_4 (by decide) rfl rfl ?_
  exact m_comes_l hn hkd ho hr hx w 0 (by omega)
set_option maxHeartbeats 4000000 in
set_option maxRecDepth 100000 in
theorem m_came_i {g : fG} {M : fM} {w : Nat} {p : Int} (hn : nOk M w p) {s la i : Int} {zz : Int} {o : Nat} (ho : o + 2 * w ≤ 96) {kk : Nat} (hk5 : kk < 5) (hx : nmS p (fun c => M 35 0 (o + c)) (2 * w)) {Q : Option fV → fM → Prop} (hk : fAt g Y_X7_came 64 [some (vr 22 0), some (vi s), some (vi la), some (vi i), some (vi (w : Int)), some (vi zz), some (vi (o : Int)), some (vi (kst (fun kk => alE (rtS p w (ent p w ((kk : Nat) : Int) (lL M)) (fun c => M 35 0 (o + c))) (fun r => M 35 0 (o + (w + r))) w) (kk + 1))), some (vi ((kk : Int) + 1)), none, none] [] M Q) :
    ∀ (n : Nat) (r : Nat), r + n = w → fAt g Y_X7_came 89 [some (vr 22 0), some (vi s), some (vi la), some (vi i), some (vi (w : Int)), some (vi zz), some (vi (o : Int)), some (vi (kst (fun kk => alE (rtS p w (ent p w ((kk : Nat) : Int) (lL M)) (fun c => M 35 0 (o + c))) (fun r => M 35 0 (o + (w + r))) w) kk)), some (vi (kk : Int)), some (vi (alE (rtS p w (ent p w ((kk : Nat) : Int) (lL M)) (fun c => M 35 0 (o + c))) (fun r => M 35 0 (o + (w + r))) r)), some (vi (r : Int))] [] M Q := by
  have hw1 := hn.2.2.2.1
  have hp2 := hn.2.2.1.1
  intro n
  induction n with
  | zero =>
    intro r hm
    refine st_iload dX7_came_89 rfl ?_
    refine st_iload dX7_came_91 rfl ?_
    refine st_icmp_ge 142 dX7_came_93 (by decide) (fun h93 => ?_) (fun h93 => ?_)
    · skip
      refine st_iload dX7_came_142 rfl ?_
      refine st_iload dX7_came_144 rfl ?_
      refine st_if_eq 156 dX7_came_146 (by decide) (fun h146 => ?_) (fun h146 => ?_)
      · skip
        refine st_iconst dX7_came_156 (by decide) ?_
        refine st_ior dX7_came_157 ?_
        refine st_istore (ls' := [some (vr 22 0), some (vi s), some (vi la), some (vi i), some (vi (w : Int)), some (vi zz), some (vi (o : Int)), some (vi (Int32.ofInt (kst (fun kk => alE (rtS p w (ent p w ((kk : Nat) : Int) (lL M)) (fun c => M 35 0 (o + c))) (fun r => M 35 0 (o + (w + r))) w) kk) ||| Int32.ofInt 0).toInt), some (vi (kk : Int)), some (vi (alE (rtS p w (ent p w ((kk : Nat) : Int) (lL M)) (fun c => M 35 0 (o + c))) (fun r => M 35 0 (o + (w + r))) r)), some (vi (r : Int))]) dX7_came_158 (by decide) rfl rfl ?_
        refine st_iinc (ls' := [some (vr 22 0), some (vi s), some (vi la), some (vi i), some (vi (w : Int)), some (vi zz), some (vi (o : Int)), some (vi (Int32.ofInt (kst (fun kk => alE (rtS p w (ent p w ((kk : Nat) : Int) (lL M)) (fun c => M 35 0 (o + c))) (fun r => M 35 0 (o + (w + r))) w) kk) ||| Int32.ofInt 0).toInt), some (vi ((kk : Int) + 1)), some (vi (alE (rtS p w (ent p w ((kk : Nat) : Int) (lL M)) (fun c => M 35 0 (o + c))) (fun r => M 35 0 (o + (w + r))) r)), some (vi (r : Int))]) dX7_came_160 rfl (by omega) (by decide) rfl rfl ?_
        refine st_goto 64 dX7_came_163 (by decide) ?_
        refine fAt_del 9 rfl ?_
        refine fAt_del 10 rfl ?_
        have hstep : kst (fun kk => alE (rtS p w (ent p w ((kk : Nat) : Int) (lL M)) (fun c => M 35 0 (o + c))) (fun r => M 35 0 (o + (w + r))) w) (kk + 1) = (Int32.ofInt (kst (fun kk => alE (rtS p w (ent p w ((kk : Nat) : Int) (lL M)) (fun c => M 35 0 (o + c))) (fun r => M 35 0 (o + (w + r))) w) kk) ||| Int32.ofInt (if alE (rtS p w (ent p w ((kk : Nat) : Int) (lL M)) (fun c => M 35 0 (o + c))) (fun r => M 35 0 (o + (w + r))) w = 0 then 0 else (Int32.ofInt 1 <<< (Int32.ofInt (kk : Int) &&& 31)).toInt)).toInt := rfl
        rw [show r = w by omega] at h146
        first
        | (rw [if_pos h146] at hstep; rw [hstep] at hk; exact hk)
        | (rw [if_neg h146] at hstep; rw [hstep] at hk; exact hk)
      · skip
        refine st_iconst dX7_came_149 (by decide) ?_
        refine st_iload dX7_came_150 rfl ?_
        refine st_ishl dX7_came_152 ?_
        refine st_goto 157 dX7_came_153 (by decide) ?_
        refine st_ior dX7_came_157 ?_
        refine st_istore (ls' := [some (vr 22 0), some (vi s), some (vi la), some (vi i), some (vi (w : Int)), some (vi zz), some (vi (o : Int)), some (vi (Int32.ofInt (kst (fun kk => alE (rtS p w (ent p w ((kk : Nat) : Int) (lL M)) (fun c => M 35 0 (o + c))) (fun r => M 35 0 (o + (w + r))) w) kk) ||| Int32.ofInt (Int32.ofInt 1 <<< (Int32.ofInt (kk : Int) &&& 31)).toInt).toInt), some (vi (kk : Int)), some (vi (alE (rtS p w (ent p w ((kk : Nat) : Int) (lL M)) (fun c => M 35 0 (o + c))) (fun r => M 35 0 (o + (w + r))) r)), some (vi (r : Int))]) dX7_came_158 (by decide) rfl rfl ?_
        refine st_iinc (ls' := [some (vr 22 0), some (vi s), some (vi la), some (vi i), some (vi (w : Int)), some (vi zz), some (vi (o : Int)), some (vi (Int32.ofInt (kst (fun kk => alE (rtS p w (ent p w ((kk : Nat) : Int) (lL M)) (fun c => M 35 0 (o + c))) (fun r => M 35 0 (o + (w + r))) w) kk) ||| Int32.ofInt (Int32.ofInt 1 <<< (Int32.ofInt (kk : Int) &&& 31)).toInt).toInt), some (vi ((kk : Int) + 1)), some (vi (alE (rtS p w (ent p w ((kk : Nat) : Int) (lL M)) (fun c => M 35 0 (o + c))) (fun r => M 35 0 (o + (w + r))) r)), some (vi (r : Int))]) dX7_came_160 rfl (by omega) (by decide) rfl rfl ?_
        refine st_goto 64 dX7_came_163 (by decide) ?_
        refine fAt_del 9 rfl ?_
        refine fAt_del 10 rfl ?_
        have hstep : kst (fun kk => alE (rtS p w (ent p w ((kk : Nat) : Int) (lL M)) (fun c => M 35 0 (o + c))) (fun r => M 35 0 (o + (w + r))) w) (kk + 1) = (Int32.ofInt (kst (fun kk => alE (rtS p w (ent p w ((kk : Nat) : Int) (lL M)) (fun c => M 35 0 (o + c))) (fun r => M 35 0 (o + (w + r))) w) kk) ||| Int32.ofInt (if alE (rtS p w (ent p w ((kk : Nat) : Int) (lL M)) (fun c => M 35 0 (o + c))) (fun r => M 35 0 (o + (w + r))) w = 0 then 0 else (Int32.ofInt 1 <<< (Int32.ofInt (kk : Int) &&& 31)).toInt)).toInt := rfl
        rw [show r = w by omega] at h146
        first
        | (rw [if_pos h146] at hstep; rw [hstep] at hk; exact hk)
        | (rw [if_neg h146] at hstep; rw [hstep] at hk; exact hk)
    · skip
      exact absurd h93 (by omega)
  | succ n ih =>
    intro r hm
    refine st_iload dX7_came_89 rfl ?_
    refine st_iload dX7_came_91 rfl ?_
    refine st_icmp_ge 142 dX7_came_93 (by decide) (fun h93 => ?_) (fun h93 => ?_)
    · skip
      exact absurd h93 (by omega)
    · skip
      refine st_iload dX7_came_96 rfl ?_
      refine st_if_eq 133 dX7_came_98 (by decide) (fun h98 => ?_) (fun h98 => ?_)
      · skip
        refine st_iconst dX7_came_133 (by decide) ?_
        refine st_istore (ls' := [some (vr 22 0), some (vi s), some (vi la), some (vi i), some (vi (w : Int)), some (vi zz), some (vi (o : Int)), some (vi (kst (fun kk => alE (rtS p w (ent p w ((kk : Nat) : Int) (lL M)) (fun c => M 35 0 (o + c))) (fun r => M 35 0 (o + (w + r))) w) kk)), some (vi (kk : Int)), some (vi 0), some (vi (r : Int))]) dX7_came_134 (by decide) rfl rfl ?_
        refine st_iinc (ls' := [some (vr 22 0), some (vi s), some (vi la), some (vi i), some (vi (w : Int)), some (vi zz), some (vi (o : Int)), some (vi (kst (fun kk => alE (rtS p w (ent p w ((kk : Nat) : Int) (lL M)) (fun c => M 35 0 (o + c))) (fun r => M 35 0 (o + (w + r))) w) kk)), some (vi (kk : Int)), some (vi 0), some (vi ((r : Int) + 1))]) dX7_came_136 rfl (by omega) (by decide) rfl rfl ?_
        refine st_goto 89 dX7_came_139 (by decide) ?_
        have hstep : alE (rtS p w (ent p w ((kk : Nat) : Int) (lL M)) (fun c => M 35 0 (o + c))) (fun r => M 35 0 (o + (w + r))) (r + 1) = if alE (rtS p w (ent p w ((kk : Nat) : Int) (lL M)) (fun c => M 35 0 (o + c))) (fun r => M 35 0 (o + (w + r))) r = 0 then 0 else if (rtS p w (ent p w ((kk : Nat) : Int) (lL M)) (fun c => M 35 0 (o + c))) r = (fun r => M 35 0 (o + (w + r))) r then 1 else 0 := rfl
        first
        | (rw [if_pos (by omega)] at hstep
           refine fAt_ls (ls' := [some (vr 22 0), some (vi s), some (vi la), some (vi i), some (vi (w : Int)), some (vi zz), some (vi (o : Int)), some (vi (kst (fun kk => alE (rtS p w (ent p w ((kk : Nat) : Int) (lL M)) (fun c => M 35 0 (o + c))) (fun r => M 35 0 (o + (w + r))) w) kk)), some (vi (kk : Int)), some (vi (alE (rtS p w (ent p w ((kk : Nat) : Int) (lL M)) (fun c => M 35 0 (o + c))) (fun r => M 35 0 (o + (w + r))) (r + 1))), some (vi (((r + 1) : Nat) : Int))]) (by rw [hstep]; rfl) ?_
           exact ih (r + 1) (by omega))
        | (rw [if_neg (by omega), if_pos (by assumption)] at hstep
           refine fAt_ls (ls' := [some (vr 22 0), some (vi s), some (vi la), some (vi i), some (vi (w : Int)), some (vi zz), some (vi (o : Int)), some (vi (kst (fun kk => alE (rtS p w (ent p w ((kk : Nat) : Int) (lL M)) (fun c => M 35 0 (o + c))) (fun r => M 35 0 (o + (w + r))) w) kk)), some (vi (kk : Int)), some (vi (alE (rtS p w (ent p w ((kk : Nat) : Int) (lL M)) (fun c => M 35 0 (o + c))) (fun r => M 35 0 (o + (w + r))) (r + 1))), some (vi (((r + 1) : Nat) : Int))]) (by rw [hstep]; rfl) ?_
           exact ih (r + 1) (by omega))
        | (rw [if_neg (by omega), if_neg (by assumption)] at hstep
           refine fAt_ls (ls' := [some (vr 22 0), some (vi s), some (vi la), some (vi i), some (vi (w : Int)), some (vi zz), some (vi (o : Int)), some (vi (kst (fun kk => alE (rtS p w (ent p w ((kk : Nat) : Int) (lL M)) (fun c => M 35 0 (o + c))) (fun r => M 35 0 (o + (w + r))) w) kk)), some (vi (kk : Int)), some (vi (alE (rtS p w (ent p w ((kk : Nat) : Int) (lL M)) (fun c => M 35 0 (o + c))) (fun r => M 35 0 (o + (w + r))) (r + 1))), some (vi (((r + 1) : Nat) : Int))]) (by rw [hstep]; rfl) ?_
           exact ih (r + 1) (by omega))
      · skip
        refine st_aload_n dX7_came_101 rfl ?_
        refine st_iload dX7_came_102 rfl ?_
        refine st_iload dX7_came_104 rfl ?_
        refine st_iload dX7_came_106 rfl ?_
        refine st_callVi [vi (kk : Int), vi (o : Int), vi (r : Int)] [] dX7_came_108 vl_X7_217 rfl rfl rfl rfl (Nat.le_of_ble_eq_true rfl) (by decide) (m_comes hn (by omega) (by omega) (by omega) (fun q hq => hx q (by omega))) (fun zc Mc qc => ?_)
        obtain ⟨rfl, q⟩ := qc
        subst Mc
        refine st_i2l dX7_came_111 ?_
        refine st_aload_n dX7_came_112 rfl ?_
        refine st_getr (i' := 0) dX7_came_113 fl_X7_50 rfl rfl rfl (fun _ => by decide) ?_
        refine st_iload dX7_came_116 rfl ?_
        refine st_iload dX7_came_118 rfl ?_
        refine st_iadd dX7_came_120 (by omega) ?_
        refine st_iload dX7_came_121 rfl ?_
        refine st_iadd dX7_came_123 (by omega) ?_
        refine st_lald (j := (o + (w + r))) dX7_came_124 rfl rfl rfl (by omega) (by omega) ?_
        refine st_lcmp dX7_came_125 ?_
        refine st_if_ne 133 dX7_came_126 (by decide) (fun h126 => ?_) (fun h126 => ?_)
        · skip
          have h126 : ¬ ((rtS p w (ent p w ((kk : Nat) : Int) (lL M)) (fun c => M 35 0 (o + c))) r = (fun r => M 35 0 (o + (w + r))) r) := fun q => h126 (fcmp_eq.mpr q)
          refine st_iconst dX7_came_133 (by decide) ?_
          refine st_istore (ls' := [some (vr 22 0), some (vi s), some (vi la), some (vi i), some (vi (w : Int)), some (vi zz), some (vi (o : Int)), some (vi (kst (fun kk => alE (rtS p w (ent p w ((kk : Nat) : Int) (lL M)) (fun c => M 35 0 (o + c))) (fun r => M 35 0 (o + (w + r))) w) kk)), some (vi (kk : Int)), some (vi 0), some (vi (r : Int))]) dX7_came_134 (by decide) rfl rfl ?_
          refine st_iinc (ls' := [some (vr 22 0), some (vi s), some (vi la), some (vi i), some (vi (w : Int)), some (vi zz), some (vi (o : Int)), some (vi (kst (fun kk => alE (rtS p w (ent p w ((kk : Nat) : Int) (lL M)) (fun c => M 35 0 (o + c))) (fun r => M 35 0 (o + (w + r))) w) kk)), some (vi (kk : Int)), some (vi 0), some (vi ((r : Int) + 1))]) dX7_came_136 rfl (by omega) (by decide) rfl rfl ?_
          refine st_goto 89 dX7_came_139 (by decide) ?_
          have hstep : alE (rtS p w (ent p w ((kk : Nat) : Int) (lL M)) (fun c => M 35 0 (o + c))) (fun r => M 35 0 (o + (w + r))) (r + 1) = if alE (rtS p w (ent p w ((kk : Nat) : Int) (lL M)) (fun c => M 35 0 (o + c))) (fun r => M 35 0 (o + (w + r))) r = 0 then 0 else if (rtS p w (ent p w ((kk : Nat) : Int) (lL M)) (fun c => M 35 0 (o + c))) r = (fun r => M 35 0 (o + (w + r))) r then 1 else 0 := rfl
          first
          | (rw [if_pos (by omega)] at hstep
             refine fAt_ls (ls' := [some (vr 22 0), some (vi s), some (vi la), some (vi i), some (vi (w : Int)), some (vi zz), some (vi (o : Int)), some (vi (kst (fun kk => alE (rtS p w (ent p w ((kk : Nat) : Int) (lL M)) (fun c => M 35 0 (o + c))) (fun r => M 35 0 (o + (w + r))) w) kk)), some (vi (kk : Int)), some (vi (alE (rtS p w (ent p w ((kk : Nat) : Int) (lL M)) (fun c => M 35 0 (o + c))) (fun r => M 35 0 (o + (w + r))) (r + 1))), some (vi (((r + 1) : Nat) : Int))]) (by rw [hstep]; rfl) ?_
             exact ih (r + 1) (by omega))
          | (rw [if_neg (by omega), if_pos (by assumption)] at hstep
             refine fAt_ls (ls' := [some (vr 22 0), some (vi s), some (vi la), some (vi i), some (vi (w : Int)), some (vi zz), some (vi (o : Int)), some (vi (kst (fun kk => alE (rtS p w (ent p w ((kk : Nat) : Int) (lL M)) (fun c => M 35 0 (o + c))) (fun r => M 35 0 (o + (w + r))) w) kk)), some (vi (kk : Int)), some (vi (alE (rtS p w (ent p w ((kk : Nat) : Int) (lL M)) (fun c => M 35 0 (o + c))) (fun r => M 35 0 (o + (w + r))) (r + 1))), some (vi (((r + 1) : Nat) : Int))]) (by rw [hstep]; rfl) ?_
             exact ih (r + 1) (by omega))
          | (rw [if_neg (by omega), if_neg (by assumption)] at hstep
             refine fAt_ls (ls' := [some (vr 22 0), some (vi s), some (vi la), some (vi i), some (vi (w : Int)), some (vi zz), some (vi (o : Int)), some (vi (kst (fun kk => alE (rtS p w (ent p w ((kk : Nat) : Int) (lL M)) (fun c => M 35 0 (o + c))) (fun r => M 35 0 (o + (w + r))) w) kk)), some (vi (kk : Int)), some (vi (alE (rtS p w (ent p w ((kk : Nat) : Int) (lL M)) (fun c => M 35 0 (o + c))) (fun r => M 35 0 (o + (w + r))) (r + 1))), some (vi (((r + 1) : Nat) : Int))]) (by rw [hstep]; rfl) ?_
             exact ih (r + 1) (by omega))
        · skip
          have h126 : (rtS p w (ent p w ((kk : Nat) : Int) (lL M)) (fun c => M 35 0 (o + c))) r = (fun r => M 35 0 (o + (w + r))) r := fcmp_eq.mp h126
          refine st_iconst dX7_came_129 (by decide) ?_
          refine st_goto 134 dX7_came_130 (by decide) ?_
          refine st_istore (ls' := [some (vr 22 0), some (vi s), some (vi la), some (vi i), some (vi (w : Int)), some (vi zz), some (vi (o : Int)), some (vi (kst (fun kk => alE (rtS p w (ent p w ((kk : Nat) : Int) (lL M)) (fun c => M 35 0 (o + c))) (fun r => M 35 0 (o + (w + r))) w) kk)), some (vi (kk : Int)), some (vi 1), some (vi (r : Int))]) dX7_came_134 (by decide) rfl rfl ?_
          refine st_iinc (ls' := [some (vr 22 0), some (vi s), some (vi la), some (vi i), some (vi (w : Int)), some (vi zz), some (vi (o : Int)), some (vi (kst (fun kk => alE (rtS p w (ent p w ((kk : Nat) : Int) (lL M)) (fun c => M 35 0 (o + c))) (fun r => M 35 0 (o + (w + r))) w) kk)), some (vi (kk : Int)), some (vi 1), some (vi ((r : Int) + 1))]) dX7_came_136 rfl (by omega) (by decide) rfl rfl ?_
          refine st_goto 89 dX7_came_139 (by decide) ?_
          have hstep : alE (rtS p w (ent p w ((kk : Nat) : Int) (lL M)) (fun c => M 35 0 (o + c))) (fun r => M 35 0 (o + (w + r))) (r + 1) = if alE (rtS p w (ent p w ((kk : Nat) : Int) (lL M)) (fun c => M 35 0 (o + c))) (fun r => M 35 0 (o + (w + r))) r = 0 then 0 else if (rtS p w (ent p w ((kk : Nat) : Int) (lL M)) (fun c => M 35 0 (o + c))) r = (fun r => M 35 0 (o + (w + r))) r then 1 else 0 := rfl
          first
          | (rw [if_pos (by omega)] at hstep
             refine fAt_ls (ls' := [some (vr 22 0), some (vi s), some (vi la), some (vi i), some (vi (w : Int)), some (vi zz), some (vi (o : Int)), some (vi (kst (fun kk => alE (rtS p w (ent p w ((kk : Nat) : Int) (lL M)) (fun c => M 35 0 (o + c))) (fun r => M 35 0 (o + (w + r))) w) kk)), some (vi (kk : Int)), some (vi (alE (rtS p w (ent p w ((kk : Nat) : Int) (lL M)) (fun c => M 35 0 (o + c))) (fun r => M 35 0 (o + (w + r))) (r + 1))), some (vi (((r + 1) : Nat) : Int))]) (by rw [hstep]; rfl) ?_
             exact ih (r + 1) (by omega))
          | (rw [if_neg (by omega), if_pos (by assumption)] at hstep
             refine fAt_ls (ls' := [some (vr 22 0), some (vi s), some (vi la), some (vi i), some (vi (w : Int)), some (vi zz), some (vi (o : Int)), some (vi (kst (fun kk => alE (rtS p w (ent p w ((kk : Nat) : Int) (lL M)) (fun c => M 35 0 (o + c))) (fun r => M 35 0 (o + (w + r))) w) kk)), some (vi (kk : Int)), some (vi (alE (rtS p w (ent p w ((kk : Nat) : Int) (lL M)) (fun c => M 35 0 (o + c))) (fun r => M 35 0 (o + (w + r))) (r + 1))), some (vi (((r + 1) : Nat) : Int))]) (by rw [hstep]; rfl) ?_
             exact ih (r + 1) (by omega))
          | (rw [if_neg (by omega), if_neg (by assumption)] at hstep
             refine fAt_ls (ls' := [some (vr 22 0), some (vi s), some (vi la), some (vi i), some (vi (w : Int)), some (vi zz), some (vi (o : Int)), some (vi (kst (fun kk => alE (rtS p w (ent p w ((kk : Nat) : Int) (lL M)) (fun c => M 35 0 (o + c))) (fun r => M 35 0 (o + (w + r))) w) kk)), some (vi (kk : Int)), some (vi (alE (rtS p w (ent p w ((kk : Nat) : Int) (lL M)) (fun c => M 35 0 (o + c))) (fun r => M 35 0 (o + (w + r))) (r + 1))), some (vi (((r + 1) : Nat) : Int))]) (by rw [hstep]; rfl) ?_
             exact ih (r + 1) (by omega))
set_option maxHeartbeats 4000000 in
set_option maxRecDepth 100000 in
theorem m_came_o {g : fG} {M : fM} {w : Nat} {p : Int} (hn : nOk M w p) {s la i : Int} {zz : Int} {o : Nat} (ho : o + 2 * w ≤ 96) :
    ∀ (n : Nat) (kk : Nat), kk + n = 5 → (kk = 0 ∨ nmS p (fun c => M 35 0 (o + c)) (2 * w)) → fAt g Y_X7_came 64 [some (vr 22 0), some (vi s), some (vi la), some (vi i), some (vi (w : Int)), some (vi zz), some (vi (o : Int)), some (vi (kst (fun kk => alE (rtS p w (ent p w ((kk : Nat) : Int) (lL M)) (fun c => M 35 0 (o + c))) (fun r => M 35 0 (o + (w + r))) w) kk)), some (vi (kk : Int)), none, none] [] M (fI (fun z M' => CmS p w (lL M) (fun c => M 35 0 (o + c)) z ∧ M' = M)) := by
  have hw1 := hn.2.2.2.1
  have hp2 := hn.2.2.1.1
  intro n
  induction n with
  | zero =>
    intro kk hm hx
    refine st_iload dX7_came_64 rfl ?_
    refine st_iconst dX7_came_66 (by decide) ?_
    refine st_icmp_ge 166 dX7_came_67 (by decide) (fun h67 => ?_) (fun h67 => ?_)
    · skip
      refine st_iload dX7_came_166 rfl ?_
      refine st_ireturn dX7_came_168 rfl ⟨_, rfl, ⟨Or.inr ⟨?_, by rw [show kk = 5 by omega]⟩, rfl⟩⟩
      rcases hx with e | e
      · omega
      · exact e
    · skip
      exact absurd h67 (by omega)
  | succ n ih =>
    intro kk hm hx
    refine st_iload dX7_came_64 rfl ?_
    refine st_iconst dX7_came_66 (by decide) ?_
    refine st_icmp_ge 166 dX7_came_67 (by decide) (fun h67 => ?_) (fun h67 => ?_)
    · skip
      exact absurd h67 (by omega)
    · skip
      refine st_aload_n dX7_came_70 rfl ?_
      refine st_iload dX7_came_71 rfl ?_
      refine st_iconst dX7_came_73 (by decide) ?_
      refine st_iload dX7_came_74 rfl ?_
      refine st_imul dX7_came_76 (by omega) ?_
      refine fAt_v (x' := ((2 * w : Nat) : Int)) (by omega) ?_
      refine st_callVi [vi (o : Int), vi (((2 * w) : Nat) : Int)] [] dX7_came_77 vl_X7_214 rfl rfl rfl rfl (Nat.le_of_ble_eq_true rfl) (by decide) (m_areNumbers hn.2.1 hn.2.2.1.1 (m := 2 * w) ho) (fun za Ma qa => ?_)
      obtain ⟨qa, q⟩ := qa
      subst Ma
      rcases qa with ⟨rfl, aa⟩ | ⟨rfl, aa⟩
      · skip
        refine st_if_eq 166 dX7_came_80 (by decide) (fun h80 => ?_) (fun h80 => ?_)
        · skip
          exact absurd h80 (by omega)
        · skip
          refine st_iconst dX7_came_83 (by decide) ?_
          refine st_istore (ls' := [some (vr 22 0), some (vi s), some (vi la), some (vi i), some (vi (w : Int)), some (vi zz), some (vi (o : Int)), some (vi (kst (fun kk => alE (rtS p w (ent p w ((kk : Nat) : Int) (lL M)) (fun c => M 35 0 (o + c))) (fun r => M 35 0 (o + (w + r))) w) kk)), some (vi (kk : Int)), some (vi 1), none]) dX7_came_84 (by decide) rfl rfl ?_
          refine st_iconst dX7_came_86 (by decide) ?_
          refine st_istore (ls' := [some (vr 22 0), some (vi s), some (vi la), some (vi i), some (vi (w : Int)), some (vi zz), some (vi (o : Int)), some (vi (kst (fun kk => alE (rtS p w (ent p w ((kk : Nat) : Int) (lL M)) (fun c => M 35 0 (o + c))) (fun r => M 35 0 (o + (w + r))) w) kk)), some (vi (kk : Int)), some (vi 1), some (vi 0)]) dX7_came_87 (by decide) rfl rfl ?_
          exact m_came_i hn ho (by omega) aa (ih (kk + 1) (by omega) (Or.inr aa)) w 0 (by omega)
      · skip
        refine st_if_eq 166 dX7_came_80 (by decide) (fun h80 => ?_) (fun h80 => ?_)
        · skip
          refine st_iload dX7_came_166 rfl ?_
          refine st_ireturn dX7_came_168 rfl ⟨_, rfl, ⟨Or.inl ⟨aa, ?_⟩, rfl⟩⟩
          rcases hx with e | e
          · rw [e]; rfl
          · exact absurd e aa
        · skip
          exact absurd rfl h80
set_option maxHeartbeats 4000000 in
set_option maxRecDepth 100000 in
theorem m_came {g : fG} {M : fM} {w : Nat} {p : Int} (hn : nOk M w p) {s la i : Int} (hz : mzL M) :
    fCi g Y_X7_came [vr 22 0, vi s, vi la, vi i] M (fun z M' => ((mfs M s la i (2 * (w : Int)) ≠ 0 ∧ z = mfs M s la i (2 * (w : Int))) ∨ (mfs M s la i (2 * (w : Int)) = 0 ∧ CmS p w (lL M) (fun c => M 35 0 (24 * s.toNat + i.toNat + c)) z)) ∧ M' = M) := by
  have hw1 := hn.2.2.2.1
  have hp2 := hn.2.2.1.1
  refine fCi_of _ [some (vr 22 0), some (vi s), some (vi la), some (vi i), none, none, none, none, none, none, none] (by decide) (Nat.le_of_ble_eq_true rfl) rfl (fun h => h) ?_
  refine st_iload_n dX7_came_0 rfl ?_
  refine st_callSi [vi s] [] dX7_came_1 sl_X7_203 rfl rfl (Nat.le_of_ble_eq_true rfl) (by decide) (m_isSheet) (fun za Ma qa => ?_)
  obtain ⟨qa, rfl⟩ := qa
  rcases qa with ⟨rfl, aa⟩ | ⟨rfl, aa⟩
  · skip
    refine st_if_eq 19 dX7_came_4 (by decide) (fun h4 => ?_) (fun h4 => ?_)
    · skip
      exact absurd h4 (by omega)
    · skip
      refine st_iload_n dX7_came_7 rfl ?_
      refine st_i2l dX7_came_8 ?_
      refine st_lconst0 dX7_came_9 ?_
      refine st_ldc2 (v := 3) (3) dX7_came_10 (ftb_in 995 (by decide +kernel) rfl) (by decide +kernel) ?_
      refine st_callSi [vl la, vl 0, vl 3] [] dX7_came_13 sl_X7_57 rfl rfl (Nat.le_of_ble_eq_true rfl) (by decide) (m_in) (fun zb Mb qb => ?_)
      obtain ⟨qb, rfl⟩ := qb
      rcases qb with ⟨rfl, ab⟩ | ⟨rfl, ab⟩
      · skip
        refine st_if_ne 21 dX7_came_16 (by decide) (fun h16 => ?_) (fun h16 => ?_)
        · skip
          refine st_aload_n dX7_came_21 rfl ?_
          refine st_getr (i' := 0) dX7_came_22 fl_X7_7 rfl rfl rfl (fun _ => by decide) ?_
          refine st_iconst dX7_came_25 (by decide) ?_
          refine st_iald (j := 0) dX7_came_26 rfl rfl rfl rfl (by decide) ?_
          refine fAt_v (x' := (w : Int)) hn.1 ?_
          refine st_istore (ls' := [some (vr 22 0), some (vi s), some (vi la), some (vi i), some (vi (w : Int)), none, none, none, none, none, none]) dX7_came_27 (by decide) rfl rfl ?_
          refine st_aload_n dX7_came_29 rfl ?_
          refine st_iload_n dX7_came_30 rfl ?_
          refine st_iload_n dX7_came_31 rfl ?_
          refine st_iload_n dX7_came_32 rfl ?_
          refine st_iconst dX7_came_33 (by decide) ?_
          refine st_iload dX7_came_34 rfl ?_
          refine st_imul dX7_came_36 (by omega) ?_
          refine st_callVi [vi s, vi la, vi i, vi (2 * (w : Int))] [] dX7_came_37 vl_X7_206 rfl rfl rfl rfl (Nat.le_of_ble_eq_true rfl) (by decide) (m_why aa hz) (fun zw Mw qw => ?_)
          obtain ⟨rfl, q⟩ := qw
          subst Mw
          have hw0 := wys_s Mb s.toNat la i (2 * (w : Int))
          refine st_istore (ls' := [some (vr 22 0), some (vi s), some (vi la), some (vi i), some (vi (w : Int)), some (vi (wys Mb s.toNat la i (2 * (w : Int)))), none, none, none, none, none]) dX7_came_40 (by decide) rfl rfl ?_
          refine st_iload dX7_came_42 rfl ?_
          refine st_if_ge 50 dX7_came_44 (by decide) (fun h44 => ?_) (fun h44 => ?_)
          · skip
            have hw1x := wys_0 (show wys Mb s.toNat la i (2 * (w : Int)) = 0 by omega)
            have h24 := (hz s.toNat (by omega)).2
            refine st_bipush dX7_came_50 (by decide) ?_
            refine st_iload_n dX7_came_52 rfl ?_
            refine st_imul dX7_came_53 (by omega) ?_
            refine st_iload_n dX7_came_54 rfl ?_
            refine st_iadd dX7_came_55 (by omega) ?_
            refine fAt_v (x' := ((24 * s.toNat + i.toNat : Nat) : Int)) (by omega) ?_
            refine st_istore (ls' := [some (vr 22 0), some (vi s), some (vi la), some (vi i), some (vi (w : Int)), some (vi (wys Mb s.toNat la i (2 * (w : Int)))), some (vi (((24 * s.toNat + i.toNat) : Nat) : Int)), none, none, none, none]) dX7_came_56 (by decide) rfl rfl ?_
            refine st_iconst dX7_came_58 (by decide) ?_
            refine st_istore (ls' := [some (vr 22 0), some (vi s), some (vi la), some (vi i), some (vi (w : Int)), some (vi (wys Mb s.toNat la i (2 * (w : Int)))), some (vi (((24 * s.toNat + i.toNat) : Nat) : Int)), some (vi 0), none, none, none]) dX7_came_59 (by decide) rfl rfl ?_
            refine st_iconst dX7_came_61 (by decide) ?_
            refine st_istore (ls' := [some (vr 22 0), some (vi s), some (vi la), some (vi i), some (vi (w : Int)), some (vi (wys Mb s.toNat la i (2 * (w : Int)))), some (vi (((24 * s.toNat + i.toNat) : Nat) : Int)), some (vi 0), some (vi 0), none, none]) dX7_came_62 (by decide) rfl rfl ?_
            refine fAt_q (fun r M' h => ?_) (m_came_o (o := 24 * s.toNat + i.toNat) hn (by omega) 5 0 (by omega) (Or.inl rfl))
            obtain ⟨z, e, h1, h2⟩ := h
            exact ⟨z, e, Or.inr ⟨by rw [mfs_in aa (by omega)]; omega, h1⟩, h2⟩
          · skip
            refine st_iload dX7_came_47 rfl ?_
            refine st_ireturn dX7_came_49 rfl ⟨_, rfl, ⟨Or.inl ⟨by rw [mfs_in aa (by omega)]; omega, by rw [mfs_in aa (by omega)]⟩, rfl⟩⟩
        · skip
          exact absurd h16 (by omega)
      · skip
        refine st_if_ne 21 dX7_came_16 (by decide) (fun h16 => ?_) (fun h16 => ?_)
        · skip
          exact absurd h16 (by omega)
        · skip
          refine st_iconst dX7_came_19 (by decide) ?_
          refine st_ireturn dX7_came_20 rfl ⟨_, rfl, ⟨Or.inl ⟨by rw [mfs_out (by omega)]; decide, (mfs_out (by omega)).symm⟩, rfl⟩⟩
  · skip
    refine st_if_eq 19 dX7_came_4 (by decide) (fun h4 => ?_) (fun h4 => ?_)
    · skip
      refine st_iconst dX7_came_19 (by decide) ?_
      refine st_ireturn dX7_came_20 rfl ⟨_, rfl, ⟨Or.inl ⟨by rw [mfs_out (by omega)]; decide, (mfs_out (by omega)).symm⟩, rfl⟩⟩
    · skip
      exact absurd h4 (by omega)
def mAp (M : fM) (o n : Nat) (v : Nat → Int) : fM := fun k a b => if k = 35 ∧ a = 0 ∧ o ≤ b ∧ b < o + n then v (b - o) else M k a b
theorem mAp_0 (M : fM) (o : Nat) (v : Nat → Int) : mAp M o 0 v = M := by
  funext k a b
  unfold mAp
  rw [if_neg (by omega)]
theorem mAp_s (M : fM) (o n : Nat) (v : Nat → Int) : fup (mAp M o n v) 35 0 (o + n) (v n) = mAp M o (n + 1) v := by
  funext k a b
  simp only [mAp, fup]
  by_cases e : k = 35 ∧ a = 0 ∧ b = o + n
  · rw [if_pos e, if_pos (by omega), e.2.2, Nat.add_sub_cancel_left]
  · rw [if_neg e]
    by_cases e2 : k = 35 ∧ a = 0 ∧ o ≤ b ∧ b < o + n
    · rw [if_pos e2, if_pos (by omega)]
    · rw [if_neg e2, if_neg (by omega)]
theorem mAp_off {M : fM} {o n k a b : Nat} {v : Nat → Int} (h : k ≠ 35) : mAp M o n v k a b = M k a b := by
  unfold mAp
  rw [if_neg (by omega)]
theorem mAp_n {M : fM} {o n w : Nat} {p : Int} {v : Nat → Int} (h : nOk M w p) : nOk (mAp M o n v) w p := nOk_k h (fun b => mAp_off (by decide))
theorem mAp_T (M : fM) (o n : Nat) (v t : Nat → Int) (kf : Int) (C : Nat → Nat → Int) : mAp (wW (wT M t kf) C) o n v = wW (wT (mAp M o n v) t kf) C := by
  funext k i j
  simp only [mAp, wW, wT]
  grind (splits := 40)
set_option maxHeartbeats 4000000 in
set_option maxRecDepth 100000 in
theorem m_apply_l {g : fG} {M : fM} {w : Nat} {p : Int} (hn : nOk M w p) {s la i : Int} {zz : Int} {o : Nat} (ho : o + 2 * w ≤ 96) (hx : nmS p (fun c => M 35 0 (o + c)) w) :
    ∀ (n r : Nat), r + n = w → fAt g Y_X7_apply 75 [some (vr 22 0), some (vi s), some (vi la), some (vi i), some (vi (w : Int)), some (vi zz), some (vi (o : Int)), some (vi (r : Int))] [] (mAp M (o + w) r (rtS p w (eN M w p) (fun c => M 35 0 (o + c)))) (fI (fun z M' => z = 1 ∧ M' = (mAp M (o + w) w (rtS p w (eN M w p) (fun c => M 35 0 (o + c)))))) := by
  have hw1 := hn.2.2.2.1
  have hp2 := hn.2.2.1.1
  intro n
  induction n with
  | zero =>
    intro r hm
    refine st_iload dX7_apply_75 rfl ?_
    refine st_iload dX7_apply_77 rfl ?_
    refine st_icmp_ge 116 dX7_apply_79 (by decide) (fun h79 => ?_) (fun h79 => ?_)
    · skip
      refine st_iconst dX7_apply_116 (by decide) ?_
      refine st_ireturn dX7_apply_117 rfl ⟨_, rfl, ⟨rfl, by rw [show r = w by omega]⟩⟩
    · skip
      exact absurd h79 (by omega)
  | succ n ih =>
    intro r hm
    refine st_iload dX7_apply_75 rfl ?_
    refine st_iload dX7_apply_77 rfl ?_
    refine st_icmp_ge 116 dX7_apply_79 (by decide) (fun h79 => ?_) (fun h79 => ?_)
    · skip
      exact absurd h79 (by omega)
    · skip
      refine st_aload_n dX7_apply_82 rfl ?_
      refine st_getr (i' := 0) dX7_apply_83 fl_X7_50 rfl rfl rfl (fun _ => by decide) ?_
      refine st_iload dX7_apply_86 rfl ?_
      refine st_iload dX7_apply_88 rfl ?_
      refine st_iadd dX7_apply_90 (by omega) ?_
      refine st_iload dX7_apply_91 rfl ?_
      refine st_iadd dX7_apply_93 (by omega) ?_
      refine st_aload_n dX7_apply_94 rfl ?_
      refine st_aload_n dX7_apply_95 rfl ?_
      refine st_getr (i' := 0) dX7_apply_96 fl_X7_7 rfl rfl rfl (fun _ => by decide) ?_
      refine st_iconst dX7_apply_99 (by decide) ?_
      refine st_iald (j := 1) dX7_apply_100 rfl rfl rfl rfl (by decide) ?_
      refine fAt_v (x' := M 23 0 1) (mAp_off (by decide)) ?_
      refine st_iload dX7_apply_101 rfl ?_
      refine st_iload dX7_apply_103 rfl ?_
      refine st_callVi [vi (M 23 0 1), vi (o : Int), vi (r : Int)] [vi (((o : Int) + (w : Int)) + (r : Int)), vr 35 0] dX7_apply_105 vl_X7_217 rfl rfl rfl rfl (Nat.le_of_ble_eq_true rfl) (by decide) (m_comes (mAp_n hn) hn.2.2.2.2.1 (by omega) (by omega) (fun q hq => by show 0 ≤ mAp M (o + w) r _ 35 0 (o + q) ∧ mAp M (o + w) r _ 35 0 (o + q) < p; unfold mAp; rw [if_neg (by omega)]; exact hx q hq)) (fun zc Mc qc => ?_)
      obtain ⟨rfl, q⟩ := qc
      subst Mc
      refine fAt_v (x' := (rtS p w (eN M w p) (fun c => M 35 0 (o + c))) r) (rtS_c (by omega) (fun a b ha hb => by rw [show lL (mAp M (o + w) r (rtS p w (eN M w p) (fun c => M 35 0 (o + c)))) = lL M from funext fun q => mAp_off (by decide)]) (fun c hc => by unfold mAp; rw [if_neg (by omega)])) ?_
      refine st_i2l dX7_apply_108 ?_
      refine st_last (j := (o + w + r)) dX7_apply_109 rfl rfl rfl (by omega) (by omega) ?_
      refine fAt_m (mAp_s M (o + w) r (rtS p w (eN M w p) (fun c => M 35 0 (o + c)))) ?_
      refine st_iinc (ls' := [some (vr 22 0), some (vi s), some (vi la), some (vi i), some (vi (w : Int)), some (vi zz), some (vi (o : Int)), some (vi ((r : Int) + 1))]) dX7_apply_110 rfl (by omega) (by decide) rfl rfl ?_
      refine st_goto 75 dX7_apply_113 (by decide) ?_
      exact ih (r + 1) (by omega)
set_option maxHeartbeats 4000000 in
set_option maxRecDepth 100000 in
theorem m_apply {g : fG} {M : fM} {w : Nat} {p : Int} (hn : nOk M w p) {s la i : Int} (hz : mzL M) :
    fCi g Y_X7_apply [vr 22 0, vi s, vi la, vi i] M (fun z M' => (mfs M s la i (2 * (w : Int)) ≠ 0 ∧ z = mfs M s la i (2 * (w : Int)) ∧ M' = M) ∨ (mfs M s la i (2 * (w : Int)) = 0 ∧ ((¬ nmS p (fun c => M 35 0 (24 * s.toNat + i.toNat + c)) w ∧ z = -2 ∧ M' = M) ∨ (nmS p (fun c => M 35 0 (24 * s.toNat + i.toNat + c)) w ∧ z = 1 ∧ M' = mAp M ((24 * s.toNat + i.toNat) + w) w (rtS p w (eN M w p) (fun c => M 35 0 (24 * s.toNat + i.toNat + c))))))) := by
  have hw1 := hn.2.2.2.1
  have hp2 := hn.2.2.1.1
  refine fCi_of _ [some (vr 22 0), some (vi s), some (vi la), some (vi i), none, none, none, none] (by decide) (Nat.le_of_ble_eq_true rfl) rfl (fun h => h) ?_
  refine st_iload_n dX7_apply_0 rfl ?_
  refine st_callSi [vi s] [] dX7_apply_1 sl_X7_203 rfl rfl (Nat.le_of_ble_eq_true rfl) (by decide) (m_isSheet) (fun za Ma qa => ?_)
  obtain ⟨qa, rfl⟩ := qa
  rcases qa with ⟨rfl, aa⟩ | ⟨rfl, aa⟩
  · skip
    refine st_if_eq 19 dX7_apply_4 (by decide) (fun h4 => ?_) (fun h4 => ?_)
    · skip
      exact absurd h4 (by omega)
    · skip
      refine st_iload_n dX7_apply_7 rfl ?_
      refine st_i2l dX7_apply_8 ?_
      refine st_lconst0 dX7_apply_9 ?_
      refine st_ldc2 (v := 3) (3) dX7_apply_10 (ftb_in 995 (by decide +kernel) rfl) (by decide +kernel) ?_
      refine st_callSi [vl la, vl 0, vl 3] [] dX7_apply_13 sl_X7_57 rfl rfl (Nat.le_of_ble_eq_true rfl) (by decide) (m_in) (fun zb Mb qb => ?_)
      obtain ⟨qb, rfl⟩ := qb
      rcases qb with ⟨rfl, ab⟩ | ⟨rfl, ab⟩
      · skip
        refine st_if_ne 21 dX7_apply_16 (by decide) (fun h16 => ?_) (fun h16 => ?_)
        · skip
          refine st_aload_n dX7_apply_21 rfl ?_
          refine st_getr (i' := 0) dX7_apply_22 fl_X7_7 rfl rfl rfl (fun _ => by decide) ?_
          refine st_iconst dX7_apply_25 (by decide) ?_
          refine st_iald (j := 0) dX7_apply_26 rfl rfl rfl rfl (by decide) ?_
          refine fAt_v (x' := (w : Int)) hn.1 ?_
          refine st_istore (ls' := [some (vr 22 0), some (vi s), some (vi la), some (vi i), some (vi (w : Int)), none, none, none]) dX7_apply_27 (by decide) rfl rfl ?_
          refine st_aload_n dX7_apply_29 rfl ?_
          refine st_iload_n dX7_apply_30 rfl ?_
          refine st_iload_n dX7_apply_31 rfl ?_
          refine st_iload_n dX7_apply_32 rfl ?_
          refine st_iconst dX7_apply_33 (by decide) ?_
          refine st_iload dX7_apply_34 rfl ?_
          refine st_imul dX7_apply_36 (by omega) ?_
          refine st_callVi [vi s, vi la, vi i, vi (2 * (w : Int))] [] dX7_apply_37 vl_X7_206 rfl rfl rfl rfl (Nat.le_of_ble_eq_true rfl) (by decide) (m_why aa hz) (fun zw Mw qw => ?_)
          obtain ⟨rfl, q⟩ := qw
          subst Mw
          have hw0 := wys_s Mb s.toNat la i (2 * (w : Int))
          refine st_istore (ls' := [some (vr 22 0), some (vi s), some (vi la), some (vi i), some (vi (w : Int)), some (vi (wys Mb s.toNat la i (2 * (w : Int)))), none, none]) dX7_apply_40 (by decide) rfl rfl ?_
          refine st_iload dX7_apply_42 rfl ?_
          refine st_if_ge 50 dX7_apply_44 (by decide) (fun h44 => ?_) (fun h44 => ?_)
          · skip
            have hw1x := wys_0 (show wys Mb s.toNat la i (2 * (w : Int)) = 0 by omega)
            have h24 := (hz s.toNat (by omega)).2
            refine st_bipush dX7_apply_50 (by decide) ?_
            refine st_iload_n dX7_apply_52 rfl ?_
            refine st_imul dX7_apply_53 (by omega) ?_
            refine st_iload_n dX7_apply_54 rfl ?_
            refine st_iadd dX7_apply_55 (by omega) ?_
            refine fAt_v (x' := ((24 * s.toNat + i.toNat : Nat) : Int)) (by omega) ?_
            refine st_istore (ls' := [some (vr 22 0), some (vi s), some (vi la), some (vi i), some (vi (w : Int)), some (vi (wys Mb s.toNat la i (2 * (w : Int)))), some (vi (((24 * s.toNat + i.toNat) : Nat) : Int)), none]) dX7_apply_56 (by decide) rfl rfl ?_
            refine st_aload_n dX7_apply_58 rfl ?_
            refine st_iload dX7_apply_59 rfl ?_
            refine st_iload dX7_apply_61 rfl ?_
            refine st_callVi [vi (((24 * s.toNat + i.toNat) : Nat) : Int), vi (w : Int)] [] dX7_apply_63 vl_X7_214 rfl rfl rfl rfl (Nat.le_of_ble_eq_true rfl) (by decide) (m_areNumbers hn.2.1 hn.2.2.1.1 (by omega)) (fun zn Mn qn => ?_)
            obtain ⟨qn, q⟩ := qn
            subst Mn
            rcases qn with ⟨rfl, an⟩ | ⟨rfl, an⟩
            · skip
              refine st_if_ne 72 dX7_apply_66 (by decide) (fun h66 => ?_) (fun h66 => ?_)
              · skip
                refine st_iconst dX7_apply_72 (by decide) ?_
                refine st_istore (ls' := [some (vr 22 0), some (vi s), some (vi la), some (vi i), some (vi (w : Int)), some (vi (wys Mb s.toNat la i (2 * (w : Int)))), some (vi (((24 * s.toNat + i.toNat) : Nat) : Int)), some (vi 0)]) dX7_apply_73 (by decide) rfl rfl ?_
                refine fAt_m (mAp_0 _ (24 * s.toNat + i.toNat + w) (rtS p w (eN Mb w p) (fun c => Mb 35 0 (24 * s.toNat + i.toNat + c)))).symm ?_
                refine fAt_q (fun r M' h => ?_) (m_apply_l (o := 24 * s.toNat + i.toNat) hn (by omega) an w 0 (by omega))
                obtain ⟨z, e, h1, h2⟩ := h
                exact ⟨z, e, Or.inr ⟨by rw [mfs_in aa (by omega)]; omega, Or.inr ⟨an, h1, h2⟩⟩⟩
              · skip
                exact absurd h66 (by omega)
            · skip
              refine st_if_ne 72 dX7_apply_66 (by decide) (fun h66 => ?_) (fun h66 => ?_)
              · skip
                exact absurd rfl h66
              · skip
                refine st_bipush dX7_apply_69 (by decide) ?_
                refine st_ireturn dX7_apply_71 rfl ⟨_, rfl, Or.inr ⟨by rw [mfs_in aa (by omega)]; omega, Or.inl ⟨an, rfl, rfl⟩⟩⟩
          · skip
            refine st_iload dX7_apply_47 rfl ?_
            refine st_ireturn dX7_apply_49 rfl ⟨_, rfl, Or.inl ⟨by rw [mfs_in aa (by omega)]; omega, by rw [mfs_in aa (by omega)], rfl⟩⟩
        · skip
          exact absurd h16 (by omega)
      · skip
        refine st_if_ne 21 dX7_apply_16 (by decide) (fun h16 => ?_) (fun h16 => ?_)
        · skip
          exact absurd h16 (by omega)
        · skip
          refine st_iconst dX7_apply_19 (by decide) ?_
          refine st_ireturn dX7_apply_20 rfl ⟨_, rfl, Or.inl ⟨by rw [mfs_out (by omega)]; decide, (mfs_out (by omega)).symm, rfl⟩⟩
  · skip
    refine st_if_eq 19 dX7_apply_4 (by decide) (fun h4 => ?_) (fun h4 => ?_)
    · skip
      refine st_iconst dX7_apply_19 (by decide) ?_
      refine st_ireturn dX7_apply_20 rfl ⟨_, rfl, Or.inl ⟨by rw [mfs_out (by omega)]; decide, (mfs_out (by omega)).symm, rfl⟩⟩
    · skip
      exact absurd h4 (by omega)
set_option maxHeartbeats 4000000 in
set_option maxRecDepth 100000 in
theorem m_film_l {g : fG} {M : fM} {w : Nat} (hw1 : 1 ≤ w ∧ w ≤ 6) {s la i zz nn kf : Int} {C : Nat → Nat → Int} {t : Nat → Int} (hs : 0 ≤ s ∧ s < 4) (hi : 0 ≤ i ∧ i + w ≤ 24) (hn0 : 0 ≤ nn) (ht : ∀ d, d < w → t d = -4 ∨ (0 ≤ t d ∧ t d < 11)) :
    ∀ (n c : Nat), c + n = w → fAt g Y_X7_film 67 [some (vr 22 0), some (vi s), some (vi la), some (vi i), some (vi (w : Int)), some (vi zz), some (vl nn), none, some (vi (c : Int))] [] (mAp (wW (wT M t kf) C) (24 * s.toNat + i.toNat) c (ansT C w (tN t))) (fI (fun z M' => z = (if 9 < nn then 9 else nn) ∧ M' = (mAp (wW (wT M t kf) C) (24 * s.toNat + i.toNat) w (ansT C w (tN t))))) := by
  intro n
  induction n with
  | zero =>
    intro c hm
    refine st_iload dX7_film_67 rfl ?_
    refine st_iload dX7_film_69 rfl ?_
    refine st_icmp_ge 103 dX7_film_71 (by decide) (fun h71 => ?_) (fun h71 => ?_)
    · skip
      refine st_lload dX7_film_103 rfl ?_
      refine st_ldc2 (v := 9) (9) dX7_film_105 (ftb_in 1035 (by decide +kernel) rfl) (by decide +kernel) ?_
      refine st_lcmp dX7_film_108 ?_
      refine st_if_le 118 dX7_film_109 (by decide) (fun h109 => ?_) (fun h109 => ?_)
      · skip
        have h109 : ¬ 9 < nn := fun q => absurd (fcmp_gt.mpr q) (by omega)
        refine st_lload dX7_film_118 rfl ?_
        refine st_l2i dX7_film_120 (by omega) ?_
        refine st_ireturn dX7_film_121 rfl ⟨_, rfl, ⟨?_, by rw [show c = w by omega]⟩⟩
        first | rw [if_pos h109] | rw [if_neg h109]
      · skip
        have h109 : 9 < nn := fcmp_gt.mp (by omega)
        refine st_ldc2 (v := 9) (9) dX7_film_112 (ftb_in 1035 (by decide +kernel) rfl) (by decide +kernel) ?_
        refine st_goto 120 dX7_film_115 (by decide) ?_
        refine st_l2i dX7_film_120 (by omega) ?_
        refine st_ireturn dX7_film_121 rfl ⟨_, rfl, ⟨?_, by rw [show c = w by omega]⟩⟩
        first | rw [if_pos h109] | rw [if_neg h109]
    · skip
      exact absurd h71 (by omega)
  | succ n ih =>
    intro c hm
    refine st_iload dX7_film_67 rfl ?_
    refine st_iload dX7_film_69 rfl ?_
    refine st_icmp_ge 103 dX7_film_71 (by decide) (fun h71 => ?_) (fun h71 => ?_)
    · skip
      exact absurd h71 (by omega)
    · skip
      refine st_aload_n dX7_film_74 rfl ?_
      refine st_getr (i' := 0) dX7_film_75 fl_X7_50 rfl rfl rfl (fun _ => by decide) ?_
      refine st_bipush dX7_film_78 (by decide) ?_
      refine st_iload_n dX7_film_80 rfl ?_
      refine st_imul dX7_film_81 (by omega) ?_
      refine st_iload_n dX7_film_82 rfl ?_
      refine st_iadd dX7_film_83 (by omega) ?_
      refine st_iload dX7_film_84 rfl ?_
      refine st_iadd dX7_film_86 (by omega) ?_
      refine st_aload_n dX7_film_87 rfl ?_
      refine st_iload dX7_film_88 rfl ?_
      refine st_iload dX7_film_90 rfl ?_
      refine fAt_m (mAp_T M _ c (ansT C w (tN t)) t kf C) ?_
      refine st_callVi [vi (c : Int), vi (w : Int)] [vi (((24 * s) + i) + (c : Int)), vr 35 0] dX7_film_92 vl_X7_188 rfl rfl rfl rfl (Nat.le_of_ble_eq_true rfl) (by decide) (m_least (M := mAp M (24 * s.toNat + i.toNat) c (ansT C w (tN t))) (C := C) (t := t) (kf := kf) (c := c) (u := w) (by omega) (by omega) (ht c (by omega))) (fun zl Ml ql => ?_)
      obtain ⟨rfl, q⟩ := ql
      subst Ml
      refine fAt_m (mAp_T M _ c (ansT C w (tN t)) t kf C).symm ?_
      refine st_i2l dX7_film_95 ?_
      refine st_last (j := (24 * s.toNat + i.toNat + c)) dX7_film_96 rfl rfl rfl (by omega) (by omega) ?_
      refine fAt_m (mAp_s _ _ c (ansT C w (tN t))) ?_
      refine st_iinc (ls' := [some (vr 22 0), some (vi s), some (vi la), some (vi i), some (vi (w : Int)), some (vi zz), some (vl nn), none, some (vi ((c : Int) + 1))]) dX7_film_97 rfl (by omega) (by decide) rfl rfl ?_
      refine st_goto 67 dX7_film_100 (by decide) ?_
      exact ih (c + 1) (by omega)
set_option maxHeartbeats 4000000 in
set_option maxRecDepth 100000 in
theorem m_film {g : fG} {M : fM} {w : Nat} {p : Int} (hn : nOk M w p) {s la i : Int} (hz : mzL M) :
    fCi g Y_X7_film [vr 22 0, vi s, vi la, vi i] M (fun z M' => (mfs M s la i (w : Int) ≠ 0 ∧ z = mfs M s la i (w : Int) ∧ M' = M) ∨ (mfs M s la i (w : Int) = 0 ∧ ∃ n a, SolZ p w (aug (eN M w p) w (lS M)) n a ∧ ((n = 0 ∧ z = -4 ∧ mS M M') ∨ (n ≠ 0 ∧ z = (if 9 < n then 9 else n) ∧ mS (mAp M (24 * s.toNat + i.toNat) w a) M')))) := by
  have hw1 := hn.2.2.2.1
  have hp2 := hn.2.2.1.1
  refine fCi_of _ [some (vr 22 0), some (vi s), some (vi la), some (vi i), none, none, none, none, none] (by decide) (Nat.le_of_ble_eq_true rfl) rfl (fun h => h) ?_
  refine st_iload_n dX7_film_0 rfl ?_
  refine st_callSi [vi s] [] dX7_film_1 sl_X7_203 rfl rfl (Nat.le_of_ble_eq_true rfl) (by decide) (m_isSheet) (fun za Ma qa => ?_)
  obtain ⟨qa, rfl⟩ := qa
  rcases qa with ⟨rfl, aa⟩ | ⟨rfl, aa⟩
  · skip
    refine st_if_eq 19 dX7_film_4 (by decide) (fun h4 => ?_) (fun h4 => ?_)
    · skip
      exact absurd h4 (by omega)
    · skip
      refine st_iload_n dX7_film_7 rfl ?_
      refine st_i2l dX7_film_8 ?_
      refine st_lconst0 dX7_film_9 ?_
      refine st_ldc2 (v := 3) (3) dX7_film_10 (ftb_in 995 (by decide +kernel) rfl) (by decide +kernel) ?_
      refine st_callSi [vl la, vl 0, vl 3] [] dX7_film_13 sl_X7_57 rfl rfl (Nat.le_of_ble_eq_true rfl) (by decide) (m_in) (fun zb Mb qb => ?_)
      obtain ⟨qb, rfl⟩ := qb
      rcases qb with ⟨rfl, ab⟩ | ⟨rfl, ab⟩
      · skip
        refine st_if_ne 21 dX7_film_16 (by decide) (fun h16 => ?_) (fun h16 => ?_)
        · skip
          refine st_aload_n dX7_film_21 rfl ?_
          refine st_getr (i' := 0) dX7_film_22 fl_X7_7 rfl rfl rfl (fun _ => by decide) ?_
          refine st_iconst dX7_film_25 (by decide) ?_
          refine st_iald (j := 0) dX7_film_26 rfl rfl rfl rfl (by decide) ?_
          refine fAt_v (x' := (w : Int)) hn.1 ?_
          refine st_istore (ls' := [some (vr 22 0), some (vi s), some (vi la), some (vi i), some (vi (w : Int)), none, none, none, none]) dX7_film_27 (by decide) rfl rfl ?_
          refine st_aload_n dX7_film_29 rfl ?_
          refine st_iload_n dX7_film_30 rfl ?_
          refine st_iload_n dX7_film_31 rfl ?_
          refine st_iload_n dX7_film_32 rfl ?_
          refine st_iload dX7_film_33 rfl ?_
          refine st_callVi [vi s, vi la, vi i, vi (w : Int)] [] dX7_film_35 vl_X7_206 rfl rfl rfl rfl (Nat.le_of_ble_eq_true rfl) (by decide) (m_why aa hz) (fun zw Mw qw => ?_)
          obtain ⟨rfl, q⟩ := qw
          subst Mw
          have hw0 := wys_s Mb s.toNat la i (w : Int)
          refine st_istore (ls' := [some (vr 22 0), some (vi s), some (vi la), some (vi i), some (vi (w : Int)), some (vi (wys Mb s.toNat la i (w : Int))), none, none, none]) dX7_film_38 (by decide) rfl rfl ?_
          refine st_iload dX7_film_40 rfl ?_
          refine st_if_ge 48 dX7_film_42 (by decide) (fun h42 => ?_) (fun h42 => ?_)
          · skip
            have hw1x := wys_0 (show wys Mb s.toNat la i (w : Int) = 0 by omega)
            have h24 := (hz s.toNat (by omega)).2
            refine st_aload_n dX7_film_48 rfl ?_
            refine st_callVl [] [] dX7_film_49 vl_X7_182 rfl rfl rfl rfl (Nat.le_of_ble_eq_true rfl) (by decide) (m_ways hn) (fun nn Mb2 qb => ?_)
            obtain ⟨C, t, kf, rfl, ht, hsz⟩ := qb
            have hn0 := SolZ_pos hp2.1 hsz
            refine st_lstore (ls' := [some (vr 22 0), some (vi s), some (vi la), some (vi i), some (vi (w : Int)), some (vi (wys Mb s.toNat la i (w : Int))), some (vl nn), none, none]) dX7_film_52 (by decide) rfl rfl ?_
            refine st_lload dX7_film_54 rfl ?_
            refine st_lconst0 dX7_film_56 ?_
            refine st_lcmp dX7_film_57 ?_
            refine st_if_ne 64 dX7_film_58 (by decide) (fun h58 => ?_) (fun h58 => ?_)
            · skip
              have h58 : nn ≠ 0 := fun q => h58 (fcmp_eq.mpr q)
              refine st_iconst dX7_film_64 (by decide) ?_
              refine st_istore (ls' := [some (vr 22 0), some (vi s), some (vi la), some (vi i), some (vi (w : Int)), some (vi (wys Mb s.toNat la i (w : Int))), some (vl nn), none, some (vi 0)]) dX7_film_65 (by decide) rfl rfl ?_
              refine fAt_m (mAp_0 _ (24 * s.toNat + i.toNat) (ansT C w (tN t))).symm ?_
              refine fAt_q (fun r M' h => ?_) (m_film_l hw1 aa (by omega) hn0 ht w 0 (by omega))
              obtain ⟨z, e, h1, h2⟩ := h
              refine ⟨z, e, Or.inr ⟨by rw [mfs_in aa (by omega)]; omega, nn, _, hsz, Or.inr ⟨h58, h1, ?_⟩⟩⟩
              rw [h2, mAp_T]
              exact mS_T
            · skip
              have h58 : nn = 0 := fcmp_eq.mp h58
              refine st_bipush dX7_film_61 (by decide) ?_
              refine st_ireturn dX7_film_63 rfl ⟨_, rfl, Or.inr ⟨by rw [mfs_in aa (by omega)]; omega, nn, _, hsz, Or.inl ⟨h58, rfl, mS_T⟩⟩⟩
          · skip
            refine st_iload dX7_film_45 rfl ?_
            refine st_ireturn dX7_film_47 rfl ⟨_, rfl, Or.inl ⟨by rw [mfs_in aa (by omega)]; omega, by rw [mfs_in aa (by omega)], rfl⟩⟩
        · skip
          exact absurd h16 (by omega)
      · skip
        refine st_if_ne 21 dX7_film_16 (by decide) (fun h16 => ?_) (fun h16 => ?_)
        · skip
          exact absurd h16 (by omega)
        · skip
          refine st_iconst dX7_film_19 (by decide) ?_
          refine st_ireturn dX7_film_20 rfl ⟨_, rfl, Or.inl ⟨by rw [mfs_out (by omega)]; decide, (mfs_out (by omega)).symm, rfl⟩⟩
  · skip
    refine st_if_eq 19 dX7_film_4 (by decide) (fun h4 => ?_) (fun h4 => ?_)
    · skip
      refine st_iconst dX7_film_19 (by decide) ?_
      refine st_ireturn dX7_film_20 rfl ⟨_, rfl, Or.inl ⟨by rw [mfs_out (by omega)]; decide, (mfs_out (by omega)).symm, rfl⟩⟩
    · skip
      exact absurd h4 (by omega)
