set_option maxHeartbeats 4000000 in
set_option maxRecDepth 100000 in
theorem m_line {g : fG} {M : fM} {w : Nat} {p : Int} (hn : nOk M w p) {x : Int} :
    fCi g Y_X7_line [vr 22 0, vi x] M (fun z M' => z = (if 0 ≤ x ∧ x < ((2 * w - 1 : Nat) : Int) then lL M x.toNat else -1) ∧ M' = M) := by
  have hw1 := hn.2.2.2.1
  have hp2 := hn.2.2.1.1
  refine fCi_of _ [some (vr 22 0), some (vi x)] (by decide) (Nat.le_of_ble_eq_true rfl) rfl (fun h => h) ?_
  refine st_aload_n dX7_line_0 rfl ?_
  refine st_iload_n dX7_line_1 rfl ?_
  refine st_callVi [vi x] [] dX7_line_2 vl_X7_111 rfl rfl rfl rfl (Nat.le_of_ble_eq_true rfl) (by decide) (m_isLine hn.1 hn.2.2.2.1) (fun za Ma qa => ?_)
  obtain ⟨qa, rfl⟩ := qa
  rcases qa with ⟨rfl, aa⟩ | ⟨rfl, aa⟩
  · skip
    refine st_if_eq 19 dX7_line_5 (by decide) (fun h5 => ?_) (fun h5 => ?_)
    · skip
      exact absurd h5 (by omega)
    · skip
      refine st_aload_n dX7_line_8 rfl ?_
      refine st_getr (i' := 0) dX7_line_9 fl_X7_7 rfl rfl rfl (fun _ => by decide) ?_
      refine st_iconst dX7_line_12 (by decide) ?_
      refine st_iload_n dX7_line_13 rfl ?_
      refine st_iadd dX7_line_14 (by omega) ?_
      refine st_iald (j := (4 + x.toNat)) dX7_line_15 rfl rfl rfl (by omega) (by omega) ?_
      refine st_goto 20 dX7_line_16 (by decide) ?_
      refine st_ireturn dX7_line_20 rfl ⟨_, rfl, ⟨?_, rfl⟩⟩
      first | rw [if_pos aa] | rw [if_neg aa]
  · skip
    refine st_if_eq 19 dX7_line_5 (by decide) (fun h5 => ?_) (fun h5 => ?_)
    · skip
      refine st_iconst dX7_line_19 (by decide) ?_
      refine st_ireturn dX7_line_20 rfl ⟨_, rfl, ⟨?_, rfl⟩⟩
      first | rw [if_pos aa] | rw [if_neg aa]
    · skip
      exact absurd h5 (by omega)
set_option maxHeartbeats 4000000 in
set_option maxRecDepth 100000 in
theorem m_right {g : fG} {M : fM} {w : Nat} {p : Int} (hn : nOk M w p) {x : Int} :
    fCi g Y_X7_right [vr 22 0, vi x] M (fun z M' => z = (if 0 ≤ x ∧ x < (w : Int) then lS M x.toNat else -1) ∧ M' = M) := by
  have hw1 := hn.2.2.2.1
  have hp2 := hn.2.2.1.1
  refine fCi_of _ [some (vr 22 0), some (vi x)] (by decide) (Nat.le_of_ble_eq_true rfl) rfl (fun h => h) ?_
  refine st_aload_n dX7_right_0 rfl ?_
  refine st_iload_n dX7_right_1 rfl ?_
  refine st_callVi [vi x] [] dX7_right_2 vl_X7_114 rfl rfl rfl rfl (Nat.le_of_ble_eq_true rfl) (by decide) (m_isRow hn.1 hn.2.2.2.1) (fun za Ma qa => ?_)
  obtain ⟨qa, rfl⟩ := qa
  rcases qa with ⟨rfl, aa⟩ | ⟨rfl, aa⟩
  · skip
    refine st_if_eq 20 dX7_right_5 (by decide) (fun h5 => ?_) (fun h5 => ?_)
    · skip
      exact absurd h5 (by omega)
    · skip
      refine st_aload_n dX7_right_8 rfl ?_
      refine st_getr (i' := 0) dX7_right_9 fl_X7_7 rfl rfl rfl (fun _ => by decide) ?_
      refine st_bipush dX7_right_12 (by decide) ?_
      refine st_iload_n dX7_right_14 rfl ?_
      refine st_iadd dX7_right_15 (by omega) ?_
      refine st_iald (j := (15 + x.toNat)) dX7_right_16 rfl rfl rfl (by omega) (by omega) ?_
      refine st_goto 21 dX7_right_17 (by decide) ?_
      refine st_ireturn dX7_right_21 rfl ⟨_, rfl, ⟨?_, rfl⟩⟩
      first | rw [if_pos aa] | rw [if_neg aa]
  · skip
    refine st_if_eq 20 dX7_right_5 (by decide) (fun h5 => ?_) (fun h5 => ?_)
    · skip
      refine st_iconst dX7_right_20 (by decide) ?_
      refine st_ireturn dX7_right_21 rfl ⟨_, rfl, ⟨?_, rfl⟩⟩
      first | rw [if_pos aa] | rw [if_neg aa]
    · skip
      exact absurd h5 (by omega)
set_option maxHeartbeats 4000000 in
set_option maxRecDepth 100000 in
theorem m_entry {g : fG} {M : fM} {w : Nat} {p : Int} (hn : nOk M w p) {x y : Int} :
    fCi g Y_X7_entry [vr 22 0, vi x, vi y] M (fun z M' => z = (if (0 ≤ x ∧ x < (w : Int)) ∧ (0 ≤ y ∧ y < (w : Int)) then eN M w p x.toNat y.toNat else -1) ∧ M' = M) := by
  have hw1 := hn.2.2.2.1
  have hp2 := hn.2.2.1.1
  refine fCi_of _ [some (vr 22 0), some (vi x), some (vi y)] (by decide) (Nat.le_of_ble_eq_true rfl) rfl (fun h => h) ?_
  refine st_aload_n dX7_entry_0 rfl ?_
  refine st_iload_n dX7_entry_1 rfl ?_
  refine st_callVi [vi x] [] dX7_entry_2 vl_X7_114 rfl rfl rfl rfl (Nat.le_of_ble_eq_true rfl) (by decide) (m_isRow hn.1 hn.2.2.2.1) (fun za Ma qa => ?_)
  obtain ⟨qa, rfl⟩ := qa
  rcases qa with ⟨rfl, aa⟩ | ⟨rfl, aa⟩
  · skip
    refine st_if_eq 31 dX7_entry_5 (by decide) (fun h5 => ?_) (fun h5 => ?_)
    · skip
      exact absurd h5 (by omega)
    · skip
      refine st_aload_n dX7_entry_8 rfl ?_
      refine st_iload_n dX7_entry_9 rfl ?_
      refine st_callVi [vi y] [] dX7_entry_10 vl_X7_114 rfl rfl rfl rfl (Nat.le_of_ble_eq_true rfl) (by decide) (m_isRow hn.1 hn.2.2.2.1) (fun zb Mb qb => ?_)
      obtain ⟨qb, rfl⟩ := qb
      rcases qb with ⟨rfl, ab⟩ | ⟨rfl, ab⟩
      · skip
        refine st_if_eq 31 dX7_entry_13 (by decide) (fun h13 => ?_) (fun h13 => ?_)
        · skip
          exact absurd h13 (by omega)
        · skip
          refine st_aload_n dX7_entry_16 rfl ?_
          refine st_aload_n dX7_entry_17 rfl ?_
          refine st_getr (i' := 0) dX7_entry_18 fl_X7_7 rfl rfl rfl (fun _ => by decide) ?_
          refine st_iconst dX7_entry_21 (by decide) ?_
          refine st_iald (j := 1) dX7_entry_22 rfl rfl rfl rfl (by decide) ?_
          refine st_iload_n dX7_entry_23 rfl ?_
          refine st_iload_n dX7_entry_24 rfl ?_
          refine fAt_v (x' := ((y.toNat : Nat) : Int)) (by omega) ?_
          refine fAt_v2 (x' := ((x.toNat : Nat) : Int)) (by omega) ?_
          refine st_callVi [vi (Mb 23 0 1), vi ((x.toNat : Nat) : Int), vi ((y.toNat : Nat) : Int)] [] dX7_entry_25 vl_X7_65 rfl rfl rfl rfl (Nat.le_of_ble_eq_true rfl) (by decide) (m_entryBy hn (by omega) (by omega) (kd5 hn.2.2.2.2.1)) (fun zc Mc qc => ?_)
          obtain ⟨rfl, rfl⟩ := qc
          refine st_goto 32 dX7_entry_28 (by decide) ?_
          refine st_ireturn dX7_entry_32 rfl ⟨_, rfl, ⟨?_, rfl⟩⟩
          first | rw [if_neg (by omega)] | rw [if_pos ⟨aa, ab⟩]
      · skip
        refine st_if_eq 31 dX7_entry_13 (by decide) (fun h13 => ?_) (fun h13 => ?_)
        · skip
          refine st_iconst dX7_entry_31 (by decide) ?_
          refine st_ireturn dX7_entry_32 rfl ⟨_, rfl, ⟨?_, rfl⟩⟩
          first | rw [if_neg (by omega)] | rw [if_pos ⟨aa, ab⟩]
        · skip
          exact absurd h13 (by omega)
  · skip
    refine st_if_eq 31 dX7_entry_5 (by decide) (fun h5 => ?_) (fun h5 => ?_)
    · skip
      refine st_iconst dX7_entry_31 (by decide) ?_
      refine st_ireturn dX7_entry_32 rfl ⟨_, rfl, ⟨?_, rfl⟩⟩
      first | rw [if_neg (by omega)] | rw [if_pos ⟨aa, ab⟩]
    · skip
      exact absurd h5 (by omega)
def mPc (M : fM) (q : Int) (c : Nat) : fM := fun k a b => if k = 23 ∧ a = 0 ∧ b = 2 then q else if k = 23 ∧ a = 0 ∧ 4 ≤ b ∧ b < c then M 23 0 b % q else M k a b
theorem mPc_0 (M : fM) (q : Int) : fup M 23 0 2 q = mPc M q 4 := by
  funext k a b
  simp only [mPc, fup]
  grind
theorem mPc_s (M : fM) (q : Int) (c : Nat) (h : 4 ≤ c) : fup (mPc M q c) 23 0 c (M 23 0 c % q) = mPc M q (c + 1) := by
  funext k a b
  simp only [mPc, fup]
  grind (splits := 40)
theorem mPc_at (M : fM) (q : Int) (c : Nat) (h : 4 ≤ c) : mPc M q c 23 0 c = M 23 0 c := by
  unfold mPc
  rw [if_neg (by omega), if_neg (by omega)]
set_option maxHeartbeats 4000000 in
set_option maxRecDepth 100000 in
theorem m_prime_l {g : fG} {M : fM} {p q : Int} (hq : 0 < q) (hnn : ∀ b, b < 21 → 0 ≤ M 23 0 b) :
    ∀ (n c : Nat), c + n = 17 → fAt g Y_X7_prime 33 [some (vr 22 0), some (vi q), some (vi p), some (vi (((4 + c) : Nat) : Int))] [] (mPc M q (4 + c)) (fI (fun z M' => z = p ∧ M' = fup (mPc M q 21) 22 0 9 0)) := by
  intro n
  induction n with
  | zero =>
    intro c hm
    refine st_iload_n dX7_prime_33 rfl ?_
    refine st_bipush dX7_prime_34 (by decide) ?_
    refine st_icmp_ge 55 dX7_prime_36 (by decide) (fun h36 => ?_) (fun h36 => ?_)
    · skip
      refine st_aload_n dX7_prime_55 rfl ?_
      refine st_iconst dX7_prime_56 (by decide) ?_
      refine st_put dX7_prime_57 fl_X7_108 fp_X7_9.1 (Or.inl fp_X7_9.2) rfl rfl rfl ?_
      refine st_iload_n dX7_prime_60 rfl ?_
      refine st_ireturn dX7_prime_61 rfl ⟨_, rfl, ⟨rfl, by rw [show 4 + c = 21 by omega]⟩⟩
    · skip
      exact absurd h36 (by omega)
  | succ n ih =>
    intro c hm
    refine st_iload_n dX7_prime_33 rfl ?_
    refine st_bipush dX7_prime_34 (by decide) ?_
    refine st_icmp_ge 55 dX7_prime_36 (by decide) (fun h36 => ?_) (fun h36 => ?_)
    · skip
      exact absurd h36 (by omega)
    · skip
      refine st_aload_n dX7_prime_39 rfl ?_
      refine st_getr (i' := 0) dX7_prime_40 fl_X7_7 rfl rfl rfl (fun _ => by decide) ?_
      refine st_iload_n dX7_prime_43 rfl ?_
      refine st_dup2 dX7_prime_44 rfl rfl ?_
      refine st_iald (j := (4 + c)) dX7_prime_45 rfl rfl rfl rfl (by omega) ?_
      refine fAt_v (x' := M 23 0 (4 + c)) (mPc_at _ _ _ (by omega)) ?_
      have h0c := hnn (4 + c) (by omega)
      refine st_iload_n dX7_prime_46 rfl ?_
      refine st_irem dX7_prime_47 (by omega) (by omega) ?_
      refine st_iast (j := (4 + c)) dX7_prime_48 rfl rfl rfl rfl (by omega) ?_
      refine fAt_m (mPc_s M q (4 + c) (by omega)) ?_
      refine st_iinc (ls' := [some (vr 22 0), some (vi q), some (vi p), some (vi ((((4 + c) : Nat) : Int) + 1))]) dX7_prime_49 rfl (by omega) (by decide) rfl rfl ?_
      refine st_goto 33 dX7_prime_52 (by decide) ?_
      exact ih (c + 1) (by omega)
set_option maxHeartbeats 4000000 in
set_option maxRecDepth 100000 in
theorem m_prime {g : fG} {M : fM} {w : Nat} {p : Int} (hn : nOk M w p) {q : Int} (hnn : ∀ b, b < 21 → 0 ≤ M 23 0 b) :
    fCi g Y_X7_prime [vr 22 0, vi q] M (fun z M' => (¬ pOk q ∧ z = -1 ∧ M' = M) ∨ (pOk q ∧ ((q = p ∧ z = -2 ∧ M' = M) ∨ (q ≠ p ∧ z = p ∧ M' = fup (mPc M q 21) 22 0 9 0)))) := by
  have hw1 := hn.2.2.2.1
  have hp2 := hn.2.2.1.1
  refine fCi_of _ [some (vr 22 0), some (vi q), none, none] (by decide) (Nat.le_of_ble_eq_true rfl) rfl (fun h => h) ?_
  refine st_iload_n dX7_prime_0 rfl ?_
  refine st_callSi [vi q] [] dX7_prime_1 sl_X7_105 rfl rfl (Nat.le_of_ble_eq_true rfl) (by decide) (m_isPrime) (fun za Ma qa => ?_)
  obtain ⟨qa, rfl⟩ := qa
  rcases qa with ⟨rfl, aa⟩ | ⟨rfl, aa⟩
  · skip
    refine st_if_ne 9 dX7_prime_4 (by decide) (fun h4 => ?_) (fun h4 => ?_)
    · skip
      refine st_aload_n dX7_prime_9 rfl ?_
      refine st_getr (i' := 0) dX7_prime_10 fl_X7_7 rfl rfl rfl (fun _ => by decide) ?_
      refine st_iconst dX7_prime_13 (by decide) ?_
      refine st_iald (j := 2) dX7_prime_14 rfl rfl rfl rfl (by decide) ?_
      refine fAt_v (x' := p) hn.2.1 ?_
      refine st_istore_n (ls' := [some (vr 22 0), some (vi q), some (vi p), none]) dX7_prime_15 (by decide) rfl rfl ?_
      refine st_iload_n dX7_prime_16 rfl ?_
      refine st_iload_n dX7_prime_17 rfl ?_
      refine st_icmp_ne 24 dX7_prime_18 (by decide) (fun h18 => ?_) (fun h18 => ?_)
      · skip
        refine st_aload_n dX7_prime_24 rfl ?_
        refine st_getr (i' := 0) dX7_prime_25 fl_X7_7 rfl rfl rfl (fun _ => by decide) ?_
        refine st_iconst dX7_prime_28 (by decide) ?_
        refine st_iload_n dX7_prime_29 rfl ?_
        refine st_iast (j := 2) dX7_prime_30 rfl rfl rfl rfl (by decide) ?_
        refine st_iconst dX7_prime_31 (by decide) ?_
        refine st_istore_n (ls' := [some (vr 22 0), some (vi q), some (vi p), some (vi 4)]) dX7_prime_32 (by decide) rfl rfl ?_
        refine fAt_m (mPc_0 Ma q) ?_
        refine fAt_q (fun r M' h => ?_) (m_prime_l (by have := aa.1; omega) hnn 17 0 (by omega))
        obtain ⟨z, e, h1, h2⟩ := h
        exact ⟨z, e, Or.inr ⟨aa, Or.inr ⟨fun q => h18 q.symm, h1, h2⟩⟩⟩
      · skip
        refine st_bipush dX7_prime_21 (by decide) ?_
        refine st_ireturn dX7_prime_23 rfl ⟨_, rfl, Or.inr ⟨aa, Or.inl ⟨h18.symm, rfl, rfl⟩⟩⟩
    · skip
      exact absurd h4 (by omega)
  · skip
    refine st_if_ne 9 dX7_prime_4 (by decide) (fun h4 => ?_) (fun h4 => ?_)
    · skip
      exact absurd h4 (by omega)
    · skip
      refine st_iconst dX7_prime_7 (by decide) ?_
      refine st_ireturn dX7_prime_8 rfl ⟨_, rfl, Or.inl ⟨aa, rfl, rfl⟩⟩
def CtM (p : Int) (w : Nat) (kd : Int) (kn : Int) (L : Nat → Int) (x z : Int) : Prop :=
  (x = 0 ∧ z = (w : Int)) ∨ (x = 1 ∧ z = kd) ∨ (x = 2 ∧ z = p) ∨ (x = 3 ∧ ∃ k ok a s, z = ((k : Nat) : Int) ∧ LSpec p w w (aug (ent p w kd L) w s) ok k a) ∨ (x = 4 ∧ z = sst (fun k => dt k (ent p w kd L) % p) w) ∨ (x = 5 ∧ z = dt w (ent p w kd L) % p) ∨ (x = 6 ∧ ∃ l a, z = ((l : Nat) : Int) ∧ LawS p L (2 * w - 1) l a) ∨ (x = 7 ∧ z = kn) ∨ ((x < 0 ∨ 7 < x) ∧ z = -1)
set_option maxHeartbeats 4000000 in
set_option maxRecDepth 100000 in
theorem m_count {g : fG} {M : fM} {w : Nat} {p : Int} (hn : nOk M w p) {x : Int} :
    fCi g Y_X7_count [vr 22 0, vi x] M (fun z M' => CtM p w (M 23 0 1) (M 22 0 9) (lL M) x z ∧ mS M M') := by
  have hw1 := hn.2.2.2.1
  have hp2 := hn.2.2.1.1
  refine fCi_of _ [some (vr 22 0), some (vi x)] (by decide) (Nat.le_of_ble_eq_true rfl) rfl (fun h => h) ?_
  refine st_iload_n dX7_count_0 rfl ?_
  rcases (show x = 0 ∨ x = 1 ∨ x = 2 ∨ x = 3 ∨ x = 4 ∨ x = 5 ∨ x = 6 ∨ x = 7 ∨ (x < 0 ∨ 7 < x) by omega) with rfl | rfl | rfl | rfl | rfl | rfl | rfl | rfl | hout
  · skip
    refine st_tableIn 48 dX7_count_1 (by decide) (by decide) rfl (by decide) ?_
    refine st_aload_n dX7_count_48 rfl ?_
    refine st_getr (i' := 0) dX7_count_49 fl_X7_7 rfl rfl rfl (fun _ => by decide) ?_
    refine st_iconst dX7_count_52 (by decide) ?_
    refine st_iald (j := 0) dX7_count_53 rfl rfl rfl rfl (by decide) ?_
    refine fAt_v (x' := (w : Int)) hn.1 ?_
    refine st_ireturn dX7_count_54 rfl ⟨_, rfl, ⟨Or.inl ⟨rfl, rfl⟩, mS_r _⟩⟩
  · skip
    refine st_tableIn 55 dX7_count_1 (by decide) (by decide) rfl (by decide) ?_
    refine st_aload_n dX7_count_55 rfl ?_
    refine st_getr (i' := 0) dX7_count_56 fl_X7_7 rfl rfl rfl (fun _ => by decide) ?_
    refine st_iconst dX7_count_59 (by decide) ?_
    refine st_iald (j := 1) dX7_count_60 rfl rfl rfl rfl (by decide) ?_
    refine st_ireturn dX7_count_61 rfl ⟨_, rfl, ⟨Or.inr (Or.inl ⟨rfl, rfl⟩), mS_r _⟩⟩
  · skip
    refine st_tableIn 62 dX7_count_1 (by decide) (by decide) rfl (by decide) ?_
    refine st_aload_n dX7_count_62 rfl ?_
    refine st_getr (i' := 0) dX7_count_63 fl_X7_7 rfl rfl rfl (fun _ => by decide) ?_
    refine st_iconst dX7_count_66 (by decide) ?_
    refine st_iald (j := 2) dX7_count_67 rfl rfl rfl rfl (by decide) ?_
    refine fAt_v (x' := p) hn.2.1 ?_
    refine st_ireturn dX7_count_68 rfl ⟨_, rfl, ⟨Or.inr (Or.inr (Or.inl ⟨rfl, rfl⟩)), mS_r _⟩⟩
  · skip
    refine st_tableIn 69 dX7_count_1 (by decide) (by decide) rfl (by decide) ?_
    refine st_aload_n dX7_count_69 rfl ?_
    refine st_callVi [] [] dX7_count_70 vl_X7_120 rfl rfl rfl rfl (Nat.le_of_ble_eq_true rfl) (by decide) (m_rankOf hn) (fun z Ma qa => ?_)
    obtain ⟨⟨kk, ok, a, s, rfl, hL⟩, hS⟩ := qa
    refine st_ireturn dX7_count_73 rfl ⟨_, rfl, ⟨Or.inr (Or.inr (Or.inr (Or.inl ⟨rfl, kk, ok, a, s, rfl, hL⟩))), hS⟩⟩
  · skip
    refine st_tableIn 74 dX7_count_1 (by decide) (by decide) rfl (by decide) ?_
    refine st_aload_n dX7_count_74 rfl ?_
    refine st_callVi [] [] dX7_count_75 vl_X7_123 rfl rfl rfl rfl (Nat.le_of_ble_eq_true rfl) (by decide) (m_singular hn) (fun z Ma qa => ?_)
    obtain ⟨rfl, hS⟩ := qa
    refine st_ireturn dX7_count_78 rfl ⟨_, rfl, ⟨Or.inr (Or.inr (Or.inr (Or.inr (Or.inl ⟨rfl, rfl⟩)))), hS⟩⟩
  · skip
    refine st_tableIn 79 dX7_count_1 (by decide) (by decide) rfl (by decide) ?_
    refine st_aload_n dX7_count_79 rfl ?_
    refine st_aload_n dX7_count_80 rfl ?_
    refine st_getr (i' := 0) dX7_count_81 fl_X7_7 rfl rfl rfl (fun _ => by decide) ?_
    refine st_iconst dX7_count_84 (by decide) ?_
    refine st_iald (j := 0) dX7_count_85 rfl rfl rfl rfl (by decide) ?_
    refine fAt_v (x' := (w : Int)) hn.1 ?_
    refine st_callVi [vi (w : Int)] [] dX7_count_86 vl_X7_117 rfl rfl rfl rfl (Nat.le_of_ble_eq_true rfl) (by decide) (m_cornerOf hn (Nat.le_refl w)) (fun z Ma qa => ?_)
    obtain ⟨rfl, D, rfl⟩ := qa
    refine st_ireturn dX7_count_89 rfl ⟨_, rfl, ⟨Or.inr (Or.inr (Or.inr (Or.inr (Or.inr (Or.inl ⟨rfl, rfl⟩))))), mS_W⟩⟩
  · skip
    refine st_tableIn 90 dX7_count_1 (by decide) (by decide) rfl (by decide) ?_
    refine st_aload_n dX7_count_90 rfl ?_
    refine st_callVi [] [] dX7_count_91 vl_X7_126 rfl rfl rfl rfl (Nat.le_of_ble_eq_true rfl) (by decide) (m_law hn) (fun z Ma qa => ?_)
    obtain ⟨l, a, rfl, hL, -, hS⟩ := qa
    refine st_ireturn dX7_count_94 rfl ⟨_, rfl, ⟨Or.inr (Or.inr (Or.inr (Or.inr (Or.inr (Or.inr (Or.inl ⟨rfl, l, a, rfl, hL⟩)))))), hS⟩⟩
  · skip
    refine st_tableIn 95 dX7_count_1 (by decide) (by decide) rfl (by decide) ?_
    refine st_aload_n dX7_count_95 rfl ?_
    refine st_get dX7_count_96 fl_X7_108 rfl rfl rfl ?_
    refine st_ireturn dX7_count_99 rfl ⟨_, rfl, ⟨Or.inr (Or.inr (Or.inr (Or.inr (Or.inr (Or.inr (Or.inr (Or.inl ⟨rfl, rfl⟩))))))), mS_r _⟩⟩
  · skip
    refine st_tableOut 100 dX7_count_1 hout (by decide) ?_
    refine st_iconst dX7_count_100 (by decide) ?_
    refine st_ireturn dX7_count_101 rfl ⟨_, rfl, ⟨Or.inr (Or.inr (Or.inr (Or.inr (Or.inr (Or.inr (Or.inr (Or.inr (⟨hout, rfl⟩)))))))), mS_r _⟩⟩
set_option maxHeartbeats 4000000 in
set_option maxRecDepth 100000 in
theorem m_type {g : fG} {M : fM} {c : Int} {n : Nat} (hn : M 22 0 5 = (n : Int)) (hn7 : n ≤ 70) :
    fCi g Y_X7_type [vr 22 0, vi c] M (fun z M' => (¬ (32 ≤ c ∧ c ≤ 126) ∧ z = -1 ∧ M' = M) ∨ ((32 ≤ c ∧ c ≤ 126) ∧ ((70 ≤ n ∧ z = -3 ∧ M' = M) ∨ (n < 70 ∧ z = (n : Int) + 1 ∧ M' = fup (fup M 26 0 n c) 22 0 5 ((n : Int) + 1))))) := by
  refine fCi_of _ [some (vr 22 0), some (vi c)] (by decide) (Nat.le_of_ble_eq_true rfl) rfl (fun h => h) ?_
  refine st_iload_n dX7_type_0 rfl ?_
  refine st_i2l dX7_type_1 ?_
  refine st_ldc2 (v := 32) (32) dX7_type_2 (ftb_in 851 (by decide +kernel) rfl) (by decide +kernel) ?_
  refine st_ldc2 (v := 126) (126) dX7_type_5 (ftb_in 852 (by decide +kernel) rfl) (by decide +kernel) ?_
  refine st_callSi [vl c, vl 32, vl 126] [] dX7_type_8 sl_X7_57 rfl rfl (Nat.le_of_ble_eq_true rfl) (by decide) (m_in) (fun za Ma qa => ?_)
  obtain ⟨qa, rfl⟩ := qa
  rcases qa with ⟨rfl, aa⟩ | ⟨rfl, aa⟩
  · skip
    refine st_if_ne 16 dX7_type_11 (by decide) (fun h11 => ?_) (fun h11 => ?_)
    · skip
      refine st_aload_n dX7_type_16 rfl ?_
      refine st_get dX7_type_17 fl_X7_133 rfl rfl rfl ?_
      refine fAt_v (x' := (n : Int)) hn ?_
      refine st_bipush dX7_type_20 (by decide) ?_
      refine st_icmp_ne 28 dX7_type_22 (by decide) (fun h22 => ?_) (fun h22 => ?_)
      · skip
        refine st_aload_n dX7_type_28 rfl ?_
        refine st_getr (i' := 0) dX7_type_29 fl_X7_19 rfl rfl rfl (fun _ => by decide) ?_
        refine st_aload_n dX7_type_32 rfl ?_
        refine st_get dX7_type_33 fl_X7_133 rfl rfl rfl ?_
        refine fAt_v (x' := (n : Int)) hn ?_
        refine st_iload_n dX7_type_36 rfl ?_
        refine st_iast (j := n) dX7_type_37 rfl rfl rfl rfl (by omega) ?_
        refine st_aload_n dX7_type_38 rfl ?_
        refine st_dup dX7_type_39 rfl ?_
        refine st_get dX7_type_40 fl_X7_133 rfl rfl rfl ?_
        refine fAt_v (x' := (n : Int)) hn ?_
        refine st_iconst dX7_type_43 (by decide) ?_
        refine st_iadd dX7_type_44 (by omega) ?_
        refine st_put dX7_type_45 fl_X7_133 fp_X7_5.1 (Or.inl fp_X7_5.2) rfl rfl rfl ?_
        refine st_aload_n dX7_type_48 rfl ?_
        refine st_get dX7_type_49 fl_X7_133 rfl rfl rfl ?_
        refine fAt_v (x' := (n : Int) + 1) fup_eq ?_
        refine st_ireturn dX7_type_52 rfl ⟨_, rfl, Or.inr ⟨aa, Or.inr ⟨by omega, rfl, rfl⟩⟩⟩
      · skip
        refine st_bipush dX7_type_25 (by decide) ?_
        refine st_ireturn dX7_type_27 rfl ⟨_, rfl, Or.inr ⟨aa, Or.inl ⟨by omega, rfl, rfl⟩⟩⟩
    · skip
      exact absurd h11 (by omega)
  · skip
    refine st_if_ne 16 dX7_type_11 (by decide) (fun h11 => ?_) (fun h11 => ?_)
    · skip
      exact absurd h11 (by omega)
    · skip
      refine st_iconst dX7_type_14 (by decide) ?_
      refine st_ireturn dX7_type_15 rfl ⟨_, rfl, Or.inl ⟨aa, rfl, rfl⟩⟩
def ahS (M : fM) (c : Nat) : fM := fun k a b => if k = 28 ∧ a = 0 ∧ b + 21 < c then M 28 0 (b + 21) else M k a b
theorem ahS_s (M : fM) (c : Nat) : fup (ahS M (21 + c)) 28 0 c (M 28 0 (21 + c)) = ahS M (21 + (c + 1)) := by
  funext k a b
  simp only [ahS, fup]
  grind (splits := 40)
theorem ahS_at (M : fM) (c : Nat) : ahS M (21 + c) 28 0 (21 + c) = M 28 0 (21 + c) := by
  unfold ahS
  rw [if_neg (by omega)]
theorem ahS_0 (M : fM) : ahS M 21 = M := by
  funext k a b
  unfold ahS
  rw [if_neg (by omega)]
def nt2 (M : fM) (u c : Nat) : fM := fun k a b => if k = 28 ∧ a = 0 ∧ 21 * u ≤ b ∧ b < 21 * u + c then M 23 0 (b - 21 * u) else M k a b
theorem nt2_s (M : fM) (u c : Nat) : fup (nt2 M u c) 28 0 (21 * u + c) (M 23 0 c) = nt2 M u (c + 1) := by
  funext k a b
  simp only [nt2, fup]
  by_cases e : k = 28 ∧ a = 0 ∧ b = 21 * u + c
  · rw [if_pos e, if_pos (by omega), e.2.2, Nat.add_sub_cancel_left]
  · rw [if_neg e]
    by_cases e2 : k = 28 ∧ a = 0 ∧ 21 * u ≤ b ∧ b < 21 * u + c
    · rw [if_pos e2, if_pos (by omega)]
    · rw [if_neg e2, if_neg (by omega)]
theorem nt2_0 (M : fM) (u : Nat) : nt2 M u 0 = M := by
  funext k a b
  unfold nt2
  rw [if_neg (by omega)]
def nt (M : fM) (kn : Nat) : fM := if kn < 8 then fup (nt2 M kn 21) 22 0 9 ((kn : Int) + 1) else fup (nt2 (fup (ahS M 168) 22 0 9 7) 7 21) 22 0 9 8
theorem nt_ne {M : fM} {kn k a b : Nat} (h : k ≠ 28) (h2 : ¬ (k = 22 ∧ a = 0 ∧ b = 9)) : nt M kn k a b = M k a b := by
  unfold nt
  split
  · rw [fup_ne h2]
    unfold nt2
    rw [if_neg (by omega)]
  · rw [fup_ne h2]
    unfold nt2
    rw [if_neg (by omega), fup_ne h2]
    unfold ahS
    rw [if_neg (by omega)]
theorem nt_u {M : fM} {kn : Nat} (h8 : kn ≤ 8) : nt M kn 22 0 9 = ((dkn kn : Nat) : Int) := by
  unfold nt dkn
  split
  · rw [fup_eq]; omega
  · rw [fup_eq]; omega
theorem nt_a {M : fM} {kn t b : Nat} (h8 : kn ≤ 8) (hb : b < 21) : nt M kn 28 0 (21 * t + b) = if kn < 8 then (if t = kn then M 23 0 b else M 28 0 (21 * t + b)) else (if t = 7 then M 23 0 b else if t < 7 then M 28 0 (21 * (t + 1) + b) else M 28 0 (21 * t + b)) := by
  unfold nt
  split
  · rw [fup_ne (by omega)]
    unfold nt2
    by_cases e : t = kn
    · rw [if_pos (by omega), if_pos e]; congr 1; omega
    · rw [if_neg (by omega), if_neg e]
  · rw [fup_ne (by omega)]
    unfold nt2
    by_cases e : t = 7
    · rw [if_pos (by omega), if_pos e, fup_ne (by omega)]
      unfold ahS
      rw [if_neg (by omega), show 21 * t + b - 21 * 7 = b by omega]
    · rw [if_neg (by omega), if_neg e, fup_ne (by omega)]
      unfold ahS
      by_cases e2 : t < 7
      · rw [if_pos (by omega), if_pos e2]; congr 1; omega
      · rw [if_neg (by omega), if_neg e2]
set_option maxHeartbeats 4000000 in
set_option maxRecDepth 100000 in
theorem notes_2 {g : fG} {M : fM} {u : Nat} (hu : M 22 0 9 = (u : Int)) (hu7 : u ≤ 7) :
    ∀ (n c : Nat), c + n = 21 → fAt g Y_X7_notes 48 [some (vr 22 0), some (vi (c : Int))] [] (nt2 M u c) (fN (fun M' => M' = fup (nt2 M u 21) 22 0 9 ((u : Int) + 1))) := by
  intro n
  induction n with
  | zero =>
    intro c hm
    refine st_iload_n dX7_notes_48 rfl ?_
    refine st_bipush dX7_notes_49 (by decide) ?_
    refine st_icmp_ge 80 dX7_notes_51 (by decide) (fun h51 => ?_) (fun h51 => ?_)
    · skip
      refine st_aload_n dX7_notes_80 rfl ?_
      refine st_dup dX7_notes_81 rfl ?_
      refine st_get dX7_notes_82 fl_X7_108 rfl rfl rfl ?_
      refine fAt_v (x' := (u : Int)) (by unfold nt2; rw [if_neg (by omega)]; exact hu) ?_
      refine st_iconst dX7_notes_85 (by decide) ?_
      refine st_iadd dX7_notes_86 (by omega) ?_
      refine st_put dX7_notes_87 fl_X7_108 fp_X7_9.1 (Or.inl fp_X7_9.2) rfl rfl rfl ?_
      refine st_return dX7_notes_90 rfl ⟨rfl, (by rw [show c = 21 by omega])⟩
    · skip
      exact absurd h51 (by omega)
  | succ n ih =>
    intro c hm
    refine st_iload_n dX7_notes_48 rfl ?_
    refine st_bipush dX7_notes_49 (by decide) ?_
    refine st_icmp_ge 80 dX7_notes_51 (by decide) (fun h51 => ?_) (fun h51 => ?_)
    · skip
      exact absurd h51 (by omega)
    · skip
      refine st_aload_n dX7_notes_54 rfl ?_
      refine st_getr (i' := 0) dX7_notes_55 fl_X7_25 rfl rfl rfl (fun _ => by decide) ?_
      refine st_bipush dX7_notes_58 (by decide) ?_
      refine st_aload_n dX7_notes_60 rfl ?_
      refine st_get dX7_notes_61 fl_X7_108 rfl rfl rfl ?_
      refine fAt_v (x' := (u : Int)) (by unfold nt2; rw [if_neg (by omega)]; exact hu) ?_
      refine st_imul dX7_notes_64 (by omega) ?_
      refine st_iload_n dX7_notes_65 rfl ?_
      refine st_iadd dX7_notes_66 (by omega) ?_
      refine st_aload_n dX7_notes_67 rfl ?_
      refine st_getr (i' := 0) dX7_notes_68 fl_X7_7 rfl rfl rfl (fun _ => by decide) ?_
      refine st_iload_n dX7_notes_71 rfl ?_
      refine st_iald (j := c) dX7_notes_72 rfl rfl rfl rfl (by omega) ?_
      refine fAt_v (x' := M 23 0 c) (by unfold nt2; rw [if_neg (by omega)]) ?_
      refine st_iast (j := (21 * u + c)) dX7_notes_73 rfl rfl rfl (by omega) (by omega) ?_
      refine fAt_m (nt2_s M u c) ?_
      refine st_iinc (ls' := [some (vr 22 0), some (vi ((c : Int) + 1))]) dX7_notes_74 rfl (by omega) (by decide) rfl rfl ?_
      refine st_goto 48 dX7_notes_77 (by decide) ?_
      exact ih (c + 1) (by omega)
set_option maxHeartbeats 4000000 in
set_option maxRecDepth 100000 in
theorem notes_1 {g : fG} {M : fM} (hu : M 22 0 9 = 8) :
    ∀ (n c : Nat), c + n = 147 → fAt g Y_X7_notes 12 [some (vr 22 0), some (vi (((21 + c) : Nat) : Int))] [] (ahS M (21 + c)) (fN (fun M' => M' = fup (nt2 (fup (ahS M 168) 22 0 9 7) 7 21) 22 0 9 8)) := by
  intro n
  induction n with
  | zero =>
    intro c hm
    refine st_iload_n dX7_notes_12 rfl ?_
    refine st_sipush dX7_notes_13 (by decide) ?_
    refine st_icmp_ge 40 dX7_notes_16 (by decide) (fun h16 => ?_) (fun h16 => ?_)
    · skip
      refine st_aload_n dX7_notes_40 rfl ?_
      refine st_bipush dX7_notes_41 (by decide) ?_
      refine st_put dX7_notes_43 fl_X7_108 fp_X7_9.1 (Or.inl fp_X7_9.2) rfl rfl rfl ?_
      refine st_iconst dX7_notes_46 (by decide) ?_
      refine st_istore_n (ls' := [some (vr 22 0), some (vi 0)]) dX7_notes_47 (by decide) rfl rfl ?_
      refine fAt_m (show _ = nt2 (fup (ahS M 168) 22 0 9 7) 7 0 from by rw [nt2_0, show 21 + c = 168 by omega]) ?_
      exact notes_2 (u := 7) fup_eq (by omega) 21 0 (by omega)
    · skip
      exact absurd h16 (by omega)
  | succ n ih =>
    intro c hm
    refine st_iload_n dX7_notes_12 rfl ?_
    refine st_sipush dX7_notes_13 (by decide) ?_
    refine st_icmp_ge 40 dX7_notes_16 (by decide) (fun h16 => ?_) (fun h16 => ?_)
    · skip
      exact absurd h16 (by omega)
    · skip
      refine st_aload_n dX7_notes_19 rfl ?_
      refine st_getr (i' := 0) dX7_notes_20 fl_X7_25 rfl rfl rfl (fun _ => by decide) ?_
      refine st_iload_n dX7_notes_23 rfl ?_
      refine st_bipush dX7_notes_24 (by decide) ?_
      refine st_isub dX7_notes_26 (by omega) ?_
      refine st_aload_n dX7_notes_27 rfl ?_
      refine st_getr (i' := 0) dX7_notes_28 fl_X7_25 rfl rfl rfl (fun _ => by decide) ?_
      refine st_iload_n dX7_notes_31 rfl ?_
      refine st_iald (j := (21 + c)) dX7_notes_32 rfl rfl rfl rfl (by omega) ?_
      refine fAt_v (x' := M 28 0 (21 + c)) (ahS_at M c) ?_
      refine st_iast (j := c) dX7_notes_33 rfl rfl rfl (by omega) (by omega) ?_
      refine fAt_m (ahS_s M c) ?_
      refine st_iinc (ls' := [some (vr 22 0), some (vi ((((21 + c) : Nat) : Int) + 1))]) dX7_notes_34 rfl (by omega) (by decide) rfl rfl ?_
      refine st_goto 12 dX7_notes_37 (by decide) ?_
      exact ih (c + 1) (by omega)
set_option maxHeartbeats 4000000 in
set_option maxRecDepth 100000 in
theorem m_notes {g : fG} {M : fM} {kn : Nat} (hk : M 22 0 9 = (kn : Int)) (hk8 : kn ≤ 8) :
    fCv g Y_X7_notes [vr 22 0] M (fun M' => M' = nt M kn) := by
  refine fCv_of _ [some (vr 22 0), none] (by decide) (Nat.le_of_ble_eq_true rfl) rfl (fun h => h) ?_
  refine st_aload_n dX7_notes_0 rfl ?_
  refine st_get dX7_notes_1 fl_X7_108 rfl rfl rfl ?_
  refine fAt_v (x' := (kn : Int)) hk ?_
  refine st_bipush dX7_notes_4 (by decide) ?_
  refine st_icmp_ne 46 dX7_notes_6 (by decide) (fun h6 => ?_) (fun h6 => ?_)
  · skip
    refine st_iconst dX7_notes_46 (by decide) ?_
    refine st_istore_n (ls' := [some (vr 22 0), some (vi 0)]) dX7_notes_47 (by decide) rfl rfl ?_
    refine fAt_m (nt2_0 M kn).symm ?_
    refine fAt_q (fun r M' h => ?_) (notes_2 hk (by omega) 21 0 (by omega))
    exact ⟨h.1, by rw [h.2]; unfold nt; rw [if_pos (by omega)]⟩
  · skip
    refine st_bipush dX7_notes_9 (by decide) ?_
    refine st_istore_n (ls' := [some (vr 22 0), some (vi 21)]) dX7_notes_11 (by decide) rfl rfl ?_
    refine fAt_m (ahS_0 M).symm ?_
    refine fAt_q (fun r M' h => ?_) (notes_1 (by omega) 147 0 (by omega))
    exact ⟨h.1, by rw [h.2]; unfold nt; rw [if_neg (by omega)]⟩
set_option maxHeartbeats 4000000 in
set_option maxRecDepth 100000 in
theorem m_change {g : fG} {M : fM} {w : Nat} {p : Int} (hn : nOk M w p) {kn : Nat} (hk : M 22 0 9 = (kn : Int)) (hk8 : kn ≤ 8) {x v : Int} :
    fCi g Y_X7_change [vr 22 0, vi x, vi v] M (fun z M' => (¬ ((0 ≤ x ∧ x < ((2 * w - 1 : Nat) : Int)) ∧ (0 ≤ v ∧ v < p)) ∧ z = -1 ∧ M' = M) ∨ (((0 ≤ x ∧ x < ((2 * w - 1 : Nat) : Int)) ∧ (0 ≤ v ∧ v < p)) ∧ ((v = lL M x.toNat ∧ z = -2 ∧ M' = M) ∨ (v ≠ lL M x.toNat ∧ z = lL M x.toNat ∧ M' = fup (nt M kn) 23 0 (4 + x.toNat) v)))) := by
  have hw1 := hn.2.2.2.1
  have hp2 := hn.2.2.1.1
  refine fCi_of _ [some (vr 22 0), some (vi x), some (vi v), none] (by decide) (Nat.le_of_ble_eq_true rfl) rfl (fun h => h) ?_
  refine st_aload_n dX7_change_0 rfl ?_
  refine st_iload_n dX7_change_1 rfl ?_
  refine st_callVi [vi x] [] dX7_change_2 vl_X7_111 rfl rfl rfl rfl (Nat.le_of_ble_eq_true rfl) (by decide) (m_isLine hn.1 hn.2.2.2.1) (fun za Ma qa => ?_)
  obtain ⟨qa, rfl⟩ := qa
  rcases qa with ⟨rfl, aa⟩ | ⟨rfl, aa⟩
  · skip
    refine st_if_eq 17 dX7_change_5 (by decide) (fun h5 => ?_) (fun h5 => ?_)
    · skip
      exact absurd h5 (by omega)
    · skip
      refine st_aload_n dX7_change_8 rfl ?_
      refine st_iload_n dX7_change_9 rfl ?_
      refine st_i2l dX7_change_10 ?_
      refine st_callVi [vl v] [] dX7_change_11 vl_X7_146 rfl rfl rfl rfl (Nat.le_of_ble_eq_true rfl) (by decide) (m_isNumber hn.2.1 hn.2.2.1.1) (fun zb Mb qb => ?_)
      obtain ⟨qb, rfl⟩ := qb
      rcases qb with ⟨rfl, ab⟩ | ⟨rfl, ab⟩
      · skip
        refine st_if_ne 19 dX7_change_14 (by decide) (fun h14 => ?_) (fun h14 => ?_)
        · skip
          refine st_aload_n dX7_change_19 rfl ?_
          refine st_getr (i' := 0) dX7_change_20 fl_X7_7 rfl rfl rfl (fun _ => by decide) ?_
          refine st_iconst dX7_change_23 (by decide) ?_
          refine st_iload_n dX7_change_24 rfl ?_
          refine st_iadd dX7_change_25 (by omega) ?_
          refine st_iald (j := (4 + x.toNat)) dX7_change_26 rfl rfl rfl (by omega) (by omega) ?_
          refine st_istore_n (ls' := [some (vr 22 0), some (vi x), some (vi v), some (vi (Mb 23 0 (4 + x.toNat)))]) dX7_change_27 (by decide) rfl rfl ?_
          refine st_iload_n dX7_change_28 rfl ?_
          refine st_iload_n dX7_change_29 rfl ?_
          refine st_icmp_ne 36 dX7_change_30 (by decide) (fun h30 => ?_) (fun h30 => ?_)
          · skip
            refine st_aload_n dX7_change_36 rfl ?_
            refine st_callVv [] [] dX7_change_37 vl_X7_166 rfl rfl rfl rfl (Nat.le_of_ble_eq_true rfl) (by decide) (m_notes hk hk8) (fun Mr qr => ?_)
            subst qr
            refine st_aload_n dX7_change_40 rfl ?_
            refine st_getr (i' := 0) dX7_change_41 fl_X7_7 rfl rfl rfl (fun _ => by decide) ?_
            refine st_iconst dX7_change_44 (by decide) ?_
            refine st_iload_n dX7_change_45 rfl ?_
            refine st_iadd dX7_change_46 (by omega) ?_
            refine st_iload_n dX7_change_47 rfl ?_
            refine st_iast (j := (4 + x.toNat)) dX7_change_48 rfl rfl rfl (by omega) (by omega) ?_
            refine st_iload_n dX7_change_49 rfl ?_
            refine st_ireturn dX7_change_50 rfl ⟨_, rfl, Or.inr ⟨⟨aa, ab⟩, Or.inr ⟨fun q => h30 q.symm, rfl, rfl⟩⟩⟩
          · skip
            refine st_bipush dX7_change_33 (by decide) ?_
            refine st_ireturn dX7_change_35 rfl ⟨_, rfl, Or.inr ⟨⟨aa, ab⟩, Or.inl ⟨h30.symm, rfl, rfl⟩⟩⟩
        · skip
          exact absurd h14 (by omega)
      · skip
        refine st_if_ne 19 dX7_change_14 (by decide) (fun h14 => ?_) (fun h14 => ?_)
        · skip
          exact absurd h14 (by omega)
        · skip
          refine st_iconst dX7_change_17 (by decide) ?_
          refine st_ireturn dX7_change_18 rfl ⟨_, rfl, Or.inl ⟨by omega, rfl, rfl⟩⟩
  · skip
    refine st_if_eq 17 dX7_change_5 (by decide) (fun h5 => ?_) (fun h5 => ?_)
    · skip
      refine st_iconst dX7_change_17 (by decide) ?_
      refine st_ireturn dX7_change_18 rfl ⟨_, rfl, Or.inl ⟨by omega, rfl, rfl⟩⟩
    · skip
      exact absurd h5 (by omega)
set_option maxHeartbeats 4000000 in
set_option maxRecDepth 100000 in
theorem m_put {g : fG} {M : fM} {w : Nat} {p : Int} (hn : nOk M w p) {kn : Nat} (hk : M 22 0 9 = (kn : Int)) (hk8 : kn ≤ 8) {x v : Int} :
    fCi g Y_X7_put [vr 22 0, vi x, vi v] M (fun z M' => (¬ ((0 ≤ x ∧ x < (w : Int)) ∧ (0 ≤ v ∧ v < p)) ∧ z = -1 ∧ M' = M) ∨ (((0 ≤ x ∧ x < (w : Int)) ∧ (0 ≤ v ∧ v < p)) ∧ ((v = lS M x.toNat ∧ z = -2 ∧ M' = M) ∨ (v ≠ lS M x.toNat ∧ z = lS M x.toNat ∧ M' = fup (nt M kn) 23 0 (15 + x.toNat) v)))) := by
  have hw1 := hn.2.2.2.1
  have hp2 := hn.2.2.1.1
  refine fCi_of _ [some (vr 22 0), some (vi x), some (vi v), none] (by decide) (Nat.le_of_ble_eq_true rfl) rfl (fun h => h) ?_
  refine st_aload_n dX7_put_0 rfl ?_
  refine st_iload_n dX7_put_1 rfl ?_
  refine st_callVi [vi x] [] dX7_put_2 vl_X7_114 rfl rfl rfl rfl (Nat.le_of_ble_eq_true rfl) (by decide) (m_isRow hn.1 hn.2.2.2.1) (fun za Ma qa => ?_)
  obtain ⟨qa, rfl⟩ := qa
  rcases qa with ⟨rfl, aa⟩ | ⟨rfl, aa⟩
  · skip
    refine st_if_eq 17 dX7_put_5 (by decide) (fun h5 => ?_) (fun h5 => ?_)
    · skip
      exact absurd h5 (by omega)
    · skip
      refine st_aload_n dX7_put_8 rfl ?_
      refine st_iload_n dX7_put_9 rfl ?_
      refine st_i2l dX7_put_10 ?_
      refine st_callVi [vl v] [] dX7_put_11 vl_X7_146 rfl rfl rfl rfl (Nat.le_of_ble_eq_true rfl) (by decide) (m_isNumber hn.2.1 hn.2.2.1.1) (fun zb Mb qb => ?_)
      obtain ⟨qb, rfl⟩ := qb
      rcases qb with ⟨rfl, ab⟩ | ⟨rfl, ab⟩
      · skip
        refine st_if_ne 19 dX7_put_14 (by decide) (fun h14 => ?_) (fun h14 => ?_)
        · skip
          refine st_aload_n dX7_put_19 rfl ?_
          refine st_getr (i' := 0) dX7_put_20 fl_X7_7 rfl rfl rfl (fun _ => by decide) ?_
          refine st_bipush dX7_put_23 (by decide) ?_
          refine st_iload_n dX7_put_25 rfl ?_
          refine st_iadd dX7_put_26 (by omega) ?_
          refine st_iald (j := (15 + x.toNat)) dX7_put_27 rfl rfl rfl (by omega) (by omega) ?_
          refine st_istore_n (ls' := [some (vr 22 0), some (vi x), some (vi v), some (vi (Mb 23 0 (15 + x.toNat)))]) dX7_put_28 (by decide) rfl rfl ?_
          refine st_iload_n dX7_put_29 rfl ?_
          refine st_iload_n dX7_put_30 rfl ?_
          refine st_icmp_ne 37 dX7_put_31 (by decide) (fun h31 => ?_) (fun h31 => ?_)
          · skip
            refine st_aload_n dX7_put_37 rfl ?_
            refine st_callVv [] [] dX7_put_38 vl_X7_166 rfl rfl rfl rfl (Nat.le_of_ble_eq_true rfl) (by decide) (m_notes hk hk8) (fun Mr qr => ?_)
            subst qr
            refine st_aload_n dX7_put_41 rfl ?_
            refine st_getr (i' := 0) dX7_put_42 fl_X7_7 rfl rfl rfl (fun _ => by decide) ?_
            refine st_bipush dX7_put_45 (by decide) ?_
            refine st_iload_n dX7_put_47 rfl ?_
            refine st_iadd dX7_put_48 (by omega) ?_
            refine st_iload_n dX7_put_49 rfl ?_
            refine st_iast (j := (15 + x.toNat)) dX7_put_50 rfl rfl rfl (by omega) (by omega) ?_
            refine st_iload_n dX7_put_51 rfl ?_
            refine st_ireturn dX7_put_52 rfl ⟨_, rfl, Or.inr ⟨⟨aa, ab⟩, Or.inr ⟨fun q => h31 q.symm, rfl, rfl⟩⟩⟩
          · skip
            refine st_bipush dX7_put_34 (by decide) ?_
            refine st_ireturn dX7_put_36 rfl ⟨_, rfl, Or.inr ⟨⟨aa, ab⟩, Or.inl ⟨h31.symm, rfl, rfl⟩⟩⟩
        · skip
          exact absurd h14 (by omega)
      · skip
        refine st_if_ne 19 dX7_put_14 (by decide) (fun h14 => ?_) (fun h14 => ?_)
        · skip
          exact absurd h14 (by omega)
        · skip
          refine st_iconst dX7_put_17 (by decide) ?_
          refine st_ireturn dX7_put_18 rfl ⟨_, rfl, Or.inl ⟨by omega, rfl, rfl⟩⟩
  · skip
    refine st_if_eq 17 dX7_put_5 (by decide) (fun h5 => ?_) (fun h5 => ?_)
    · skip
      refine st_iconst dX7_put_17 (by decide) ?_
      refine st_ireturn dX7_put_18 rfl ⟨_, rfl, Or.inl ⟨by omega, rfl, rfl⟩⟩
    · skip
      exact absurd h5 (by omega)
set_option maxHeartbeats 4000000 in
set_option maxRecDepth 100000 in
theorem m_shape {g : fG} {M : fM} {w : Nat} {p : Int} (hn : nOk M w p) {kn : Nat} (hk : M 22 0 9 = (kn : Int)) (hk8 : kn ≤ 8) {v : Int} :
    fCi g Y_X7_shape [vr 22 0, vi v] M (fun z M' => (¬ (0 ≤ v ∧ v < 5) ∧ z = -1 ∧ M' = M) ∨ ((0 ≤ v ∧ v < 5) ∧ ((v = M 23 0 1 ∧ z = -2 ∧ M' = M) ∨ (v ≠ M 23 0 1 ∧ z = M 23 0 1 ∧ M' = fup (nt M kn) 23 0 1 v)))) := by
  have hw1 := hn.2.2.2.1
  have hp2 := hn.2.2.1.1
  refine fCi_of _ [some (vr 22 0), some (vi v), none] (by decide) (Nat.le_of_ble_eq_true rfl) rfl (fun h => h) ?_
  refine st_iload_n dX7_shape_0 rfl ?_
  refine st_i2l dX7_shape_1 ?_
  refine st_lconst0 dX7_shape_2 ?_
  refine st_ldc2 (v := 4) (4) dX7_shape_3 (ftb_in 902 (by decide +kernel) rfl) (by decide +kernel) ?_
  refine st_callSi [vl v, vl 0, vl 4] [] dX7_shape_6 sl_X7_57 rfl rfl (Nat.le_of_ble_eq_true rfl) (by decide) (m_in) (fun za Ma qa => ?_)
  obtain ⟨qa, rfl⟩ := qa
  rcases qa with ⟨rfl, aa⟩ | ⟨rfl, aa⟩
  · skip
    refine st_if_ne 14 dX7_shape_9 (by decide) (fun h9 => ?_) (fun h9 => ?_)
    · skip
      refine st_aload_n dX7_shape_14 rfl ?_
      refine st_getr (i' := 0) dX7_shape_15 fl_X7_7 rfl rfl rfl (fun _ => by decide) ?_
      refine st_iconst dX7_shape_18 (by decide) ?_
      refine st_iald (j := 1) dX7_shape_19 rfl rfl rfl rfl (by decide) ?_
      refine st_istore_n (ls' := [some (vr 22 0), some (vi v), some (vi (Ma 23 0 1))]) dX7_shape_20 (by decide) rfl rfl ?_
      refine st_iload_n dX7_shape_21 rfl ?_
      refine st_iload_n dX7_shape_22 rfl ?_
      refine st_icmp_ne 29 dX7_shape_23 (by decide) (fun h23 => ?_) (fun h23 => ?_)
      · skip
        refine st_aload_n dX7_shape_29 rfl ?_
        refine st_callVv [] [] dX7_shape_30 vl_X7_166 rfl rfl rfl rfl (Nat.le_of_ble_eq_true rfl) (by decide) (m_notes hk hk8) (fun Mr qr => ?_)
        subst qr
        refine st_aload_n dX7_shape_33 rfl ?_
        refine st_getr (i' := 0) dX7_shape_34 fl_X7_7 rfl rfl rfl (fun _ => by decide) ?_
        refine st_iconst dX7_shape_37 (by decide) ?_
        refine st_iload_n dX7_shape_38 rfl ?_
        refine st_iast (j := 1) dX7_shape_39 rfl rfl rfl rfl (by decide) ?_
        refine st_iload_n dX7_shape_40 rfl ?_
        refine st_ireturn dX7_shape_41 rfl ⟨_, rfl, Or.inr ⟨by omega, Or.inr ⟨fun q => h23 q.symm, rfl, rfl⟩⟩⟩
      · skip
        refine st_bipush dX7_shape_26 (by decide) ?_
        refine st_ireturn dX7_shape_28 rfl ⟨_, rfl, Or.inr ⟨by omega, Or.inl ⟨h23.symm, rfl, rfl⟩⟩⟩
    · skip
      exact absurd h9 (by omega)
  · skip
    refine st_if_ne 14 dX7_shape_9 (by decide) (fun h9 => ?_) (fun h9 => ?_)
    · skip
      exact absurd h9 (by omega)
    · skip
      refine st_iconst dX7_shape_12 (by decide) ?_
      refine st_ireturn dX7_shape_13 rfl ⟨_, rfl, Or.inl ⟨by omega, rfl, rfl⟩⟩
def wdS (N : fM) (n c : Nat) : fM := fun k a b => if k = 23 ∧ a = 0 ∧ 4 + c < b ∧ b ≤ 4 + n then N 23 0 (b - 1) else N k a b
theorem wdS_s (N : fM) (n c : Nat) (h : c < n) : fup (wdS N n (c + 1)) 23 0 (4 + (c + 1)) (N 23 0 (4 + c)) = wdS N n c := by
  funext k a b
  simp only [wdS, fup]
  by_cases e : k = 23 ∧ a = 0 ∧ b = 4 + (c + 1)
  · rw [if_pos e, if_pos (by omega)]; congr 1; omega
  · rw [if_neg e]
    by_cases e2 : k = 23 ∧ a = 0 ∧ 4 + (c + 1) < b ∧ b ≤ 4 + n
    · rw [if_pos e2, if_pos (by omega)]
    · rw [if_neg e2, if_neg (by omega)]
theorem wdS_0 (N : fM) (n : Nat) : wdS N n n = N := by
  funext k a b
  unfold wdS
  rw [if_neg (by omega)]
def mWd (N : fM) (w : Nat) : fM := fun k a b => if k = 23 ∧ a = 0 then (if b = 0 then (w : Int) + 1 else if b = 15 + w then 0 else if b = 4 ∨ b = 4 + 2 * w then 0 else if 4 < b ∧ b < 4 + 2 * w then N 23 0 (b - 1) else N 23 0 b) else N k a b
theorem mWd_e (N : fM) (w : Nat) (hw : 1 ≤ w ∧ w < 6) : fup (fup (fup (fup (wdS N (2 * w - 1) 0) 23 0 4 0) 23 0 (4 + 2 * w) 0) 23 0 (15 + w) 0) 23 0 0 ((w : Int) + 1) = mWd N w := by
  funext k a b
  simp only [wdS, fup, mWd]
  grind (splits := 60)
set_option maxHeartbeats 4000000 in
set_option maxRecDepth 100000 in
theorem widen_l {g : fG} {M : fM} {w : Nat} (hw : M 23 0 0 = (w : Int)) (hw1 : 1 ≤ w ∧ w < 6) :
    ∀ (c : Nat), c ≤ 2 * w - 1 → fAt g Y_X7_widen 25 [some (vr 22 0), some (vi ((2 * w - 1 : Nat) : Int)), some (vi (c : Int))] [] (wdS M (2 * w - 1) c) (fI (fun z M' => z = (w : Int) + 1 ∧ M' = mWd M w)) := by
  intro c
  induction c with
  | zero =>
    intro hm
    refine st_iload_n dX7_widen_25 rfl ?_
    refine st_if_le 53 dX7_widen_26 (by decide) (fun h26 => ?_) (fun h26 => ?_)
    · skip
      refine st_aload_n dX7_widen_53 rfl ?_
      refine st_getr (i' := 0) dX7_widen_54 fl_X7_7 rfl rfl rfl (fun _ => by decide) ?_
      refine st_iconst dX7_widen_57 (by decide) ?_
      refine st_iconst dX7_widen_58 (by decide) ?_
      refine st_iast (j := 4) dX7_widen_59 rfl rfl rfl rfl (by decide) ?_
      refine st_aload_n dX7_widen_60 rfl ?_
      refine st_getr (i' := 0) dX7_widen_61 fl_X7_7 rfl rfl rfl (fun _ => by decide) ?_
      refine st_iconst dX7_widen_64 (by decide) ?_
      refine st_iload_n dX7_widen_65 rfl ?_
      refine st_iadd dX7_widen_66 (by omega) ?_
      refine st_iconst dX7_widen_67 (by decide) ?_
      refine st_iadd dX7_widen_68 (by omega) ?_
      refine st_iconst dX7_widen_69 (by decide) ?_
      refine st_iast (j := (4 + 2 * w)) dX7_widen_70 rfl rfl rfl (by omega) (by omega) ?_
      refine st_aload_n dX7_widen_71 rfl ?_
      refine st_getr (i' := 0) dX7_widen_72 fl_X7_7 rfl rfl rfl (fun _ => by decide) ?_
      refine st_bipush dX7_widen_75 (by decide) ?_
      refine st_aload_n dX7_widen_77 rfl ?_
      refine st_getr (i' := 0) dX7_widen_78 fl_X7_7 rfl rfl rfl (fun _ => by decide) ?_
      refine st_iconst dX7_widen_81 (by decide) ?_
      refine st_iald (j := 0) dX7_widen_82 rfl rfl rfl rfl (by decide) ?_
      refine fAt_v (x' := (w : Int)) ((fup_ne (by omega)).trans ((fup_ne (by omega)).trans (by unfold wdS; rw [if_neg (by omega)]; exact hw))) ?_
      refine st_iadd dX7_widen_83 (by omega) ?_
      refine st_iconst dX7_widen_84 (by decide) ?_
      refine st_iast (j := (15 + w)) dX7_widen_85 rfl rfl rfl (by omega) (by omega) ?_
      refine st_aload_n dX7_widen_86 rfl ?_
      refine st_getr (i' := 0) dX7_widen_87 fl_X7_7 rfl rfl rfl (fun _ => by decide) ?_
      refine st_iconst dX7_widen_90 (by decide) ?_
      refine st_dup2 dX7_widen_91 rfl rfl ?_
      refine st_iald (j := 0) dX7_widen_92 rfl rfl rfl rfl (by decide) ?_
      refine fAt_v (x' := (w : Int)) ((fup_ne (by omega)).trans ((fup_ne (by omega)).trans ((fup_ne (by omega)).trans (by unfold wdS; rw [if_neg (by omega)]; exact hw)))) ?_
      refine st_iconst dX7_widen_93 (by decide) ?_
      refine st_iadd dX7_widen_94 (by omega) ?_
      refine st_iast (j := 0) dX7_widen_95 rfl rfl rfl rfl (by decide) ?_
      refine fAt_m (mWd_e M w hw1) ?_
      refine st_aload_n dX7_widen_96 rfl ?_
      refine st_getr (i' := 0) dX7_widen_97 fl_X7_7 rfl rfl rfl (fun _ => by decide) ?_
      refine st_iconst dX7_widen_100 (by decide) ?_
      refine st_iald (j := 0) dX7_widen_101 rfl rfl rfl rfl (by decide) ?_
      refine fAt_v (x' := (w : Int) + 1) rfl ?_
      refine st_ireturn dX7_widen_102 rfl ⟨_, rfl, ⟨rfl, rfl⟩⟩
    · skip
      exact absurd h26 (by omega)
  | succ c ih =>
    intro hm
    refine st_iload_n dX7_widen_25 rfl ?_
    refine st_if_le 53 dX7_widen_26 (by decide) (fun h26 => ?_) (fun h26 => ?_)
    · skip
      exact absurd h26 (by omega)
    · skip
      refine st_aload_n dX7_widen_29 rfl ?_
      refine st_getr (i' := 0) dX7_widen_30 fl_X7_7 rfl rfl rfl (fun _ => by decide) ?_
      refine st_iconst dX7_widen_33 (by decide) ?_
      refine st_iload_n dX7_widen_34 rfl ?_
      refine st_iadd dX7_widen_35 (by omega) ?_
      refine st_aload_n dX7_widen_36 rfl ?_
      refine st_getr (i' := 0) dX7_widen_37 fl_X7_7 rfl rfl rfl (fun _ => by decide) ?_
      refine st_iconst dX7_widen_40 (by decide) ?_
      refine st_iload_n dX7_widen_41 rfl ?_
      refine st_iadd dX7_widen_42 (by omega) ?_
      refine st_iconst dX7_widen_43 (by decide) ?_
      refine st_isub dX7_widen_44 (by omega) ?_
      refine st_iald (j := (4 + c)) dX7_widen_45 rfl rfl rfl (by omega) (by omega) ?_
      refine fAt_v (x' := M 23 0 (4 + c)) (by unfold wdS; rw [if_neg (by omega)]) ?_
      refine st_iast (j := (4 + (c + 1))) dX7_widen_46 rfl rfl rfl (by omega) (by omega) ?_
      refine fAt_m (wdS_s M (2 * w - 1) c (by omega)) ?_
      refine st_iinc (ls' := [some (vr 22 0), some (vi (((2 * w - 1) : Nat) : Int)), some (vi ((((c + 1) : Nat) : Int) + (-1)))]) dX7_widen_47 rfl (by omega) (by decide) rfl rfl ?_
      refine st_goto 25 dX7_widen_50 (by decide) ?_
      refine fAt_ls (ls' := [some (vr 22 0), some (vi ((2 * w - 1 : Nat) : Int)), some (vi (c : Int))]) (by rw [show ((c + 1 : Nat) : Int) + (-1) = (c : Int) by omega]) ?_
      exact ih (by omega)
set_option maxHeartbeats 4000000 in
set_option maxRecDepth 100000 in
theorem m_widen {g : fG} {M : fM} {w : Nat} {p : Int} (hn : nOk M w p) {kn : Nat} (hk : M 22 0 9 = (kn : Int)) (hk8 : kn ≤ 8) :
    fCi g Y_X7_widen [vr 22 0] M (fun z M' => (6 ≤ w ∧ z = -3 ∧ M' = M) ∨ (w < 6 ∧ z = (w : Int) + 1 ∧ M' = mWd (nt M kn) w)) := by
  have hw1 := hn.2.2.2.1
  have hp2 := hn.2.2.1.1
  refine fCi_of _ [some (vr 22 0), none, none] (by decide) (Nat.le_of_ble_eq_true rfl) rfl (fun h => h) ?_
  refine st_aload_n dX7_widen_0 rfl ?_
  refine st_callVi [] [] dX7_widen_1 vl_X7_61 rfl rfl rfl rfl (Nat.le_of_ble_eq_true rfl) (by decide) (m_lines hn.1 hn.2.2.2.1) (fun zl Ml ql => ?_)
  obtain ⟨rfl, q⟩ := ql
  subst Ml
  refine st_istore_n (ls' := [some (vr 22 0), some (vi (((2 * w - 1) : Nat) : Int)), none]) dX7_widen_4 (by decide) rfl rfl ?_
  refine st_aload_n dX7_widen_5 rfl ?_
  refine st_getr (i' := 0) dX7_widen_6 fl_X7_7 rfl rfl rfl (fun _ => by decide) ?_
  refine st_iconst dX7_widen_9 (by decide) ?_
  refine st_iald (j := 0) dX7_widen_10 rfl rfl rfl rfl (by decide) ?_
  refine fAt_v (x' := (w : Int)) hn.1 ?_
  refine st_bipush dX7_widen_11 (by decide) ?_
  refine st_icmp_ne 19 dX7_widen_13 (by decide) (fun h13 => ?_) (fun h13 => ?_)
  · skip
    refine st_aload_n dX7_widen_19 rfl ?_
    refine st_callVv [] [] dX7_widen_20 vl_X7_166 rfl rfl rfl rfl (Nat.le_of_ble_eq_true rfl) (by decide) (m_notes hk hk8) (fun Mr qr => ?_)
    subst qr
    refine st_iload_n dX7_widen_23 rfl ?_
    refine st_istore_n (ls' := [some (vr 22 0), some (vi (((2 * w - 1) : Nat) : Int)), some (vi (((2 * w - 1) : Nat) : Int))]) dX7_widen_24 (by decide) rfl rfl ?_
    refine fAt_m (wdS_0 _ (2 * w - 1)).symm ?_
    refine fAt_q (fun r M' h => ?_) (widen_l (M := nt M kn) (w := w) (by rw [nt_ne (by decide) (by omega)]; exact hn.1) (by omega) (2 * w - 1) (Nat.le_refl _))
    obtain ⟨z, e, h1, h2⟩ := h
    exact ⟨z, e, Or.inr ⟨by omega, h1, h2⟩⟩
  · skip
    refine st_bipush dX7_widen_16 (by decide) ?_
    refine st_ireturn dX7_widen_18 rfl ⟨_, rfl, Or.inl ⟨by omega, rfl, rfl⟩⟩
def ctS (N : fM) (c : Nat) : fM := fun k a b => if k = 23 ∧ a = 0 ∧ 4 ≤ b ∧ b < 4 + c then N 23 0 (b + 1) else N k a b
theorem ctS_s (N : fM) (c : Nat) : fup (ctS N c) 23 0 (4 + c) (N 23 0 (4 + c + 1)) = ctS N (c + 1) := by
  funext k a b
  simp only [ctS, fup]
  grind (splits := 40)
theorem ctS_0 (N : fM) : ctS N 0 = N := by
  funext k a b
  unfold ctS
  rw [if_neg (by omega)]
def mCt (N : fM) (w : Nat) : fM := fun k a b => if k = 23 ∧ a = 0 then (if b = 0 then (w : Int) - 1 else if b = 15 + (w - 1) then 0 else if b = 4 + (2 * w - 3) ∨ b = 4 + (2 * w - 2) then 0 else if 4 ≤ b ∧ b < 4 + (2 * w - 3) then N 23 0 (b + 1) else N 23 0 b) else N k a b
theorem mCt_e (N : fM) (w : Nat) (hw : 1 < w ∧ w ≤ 6) : fup (fup (fup (fup (ctS N (2 * w - 3)) 23 0 (4 + (2 * w - 3)) 0) 23 0 (4 + (2 * w - 2)) 0) 23 0 0 ((w : Int) - 1)) 23 0 (15 + (w - 1)) 0 = mCt N w := by
  funext k a b
  simp only [ctS, fup, mCt]
  grind (splits := 60)
set_option maxHeartbeats 4000000 in
set_option maxRecDepth 100000 in
theorem cut_l {g : fG} {M : fM} {w : Nat} (hw : M 23 0 0 = (w : Int)) (hw1 : 1 < w ∧ w ≤ 6) :
    ∀ (n c : Nat), c + n = 2 * w - 3 → fAt g Y_X7_cut 24 [some (vr 22 0), some (vi (((2 * w - 1) : Nat) : Int)), some (vi (c : Int))] [] (ctS M c) (fI (fun z M' => z = (w : Int) - 1 ∧ M' = mCt M w)) := by
  intro n
  induction n with
  | zero =>
    intro c hm
    refine st_iload_n dX7_cut_24 rfl ?_
    refine st_iload_n dX7_cut_25 rfl ?_
    refine st_iconst dX7_cut_26 (by decide) ?_
    refine st_isub dX7_cut_27 (by omega) ?_
    refine st_icmp_ge 55 dX7_cut_28 (by decide) (fun h28 => ?_) (fun h28 => ?_)
    · skip
      refine fAt_m (show _ = ctS M (2 * w - 3) from by rw [show c = 2 * w - 3 by omega]) ?_
      refine st_aload_n dX7_cut_55 rfl ?_
      refine st_getr (i' := 0) dX7_cut_56 fl_X7_7 rfl rfl rfl (fun _ => by decide) ?_
      refine st_iconst dX7_cut_59 (by decide) ?_
      refine st_iload_n dX7_cut_60 rfl ?_
      refine st_iadd dX7_cut_61 (by omega) ?_
      refine st_iconst dX7_cut_62 (by decide) ?_
      refine st_isub dX7_cut_63 (by omega) ?_
      refine st_iconst dX7_cut_64 (by decide) ?_
      refine st_iast (j := (4 + (2 * w - 3))) dX7_cut_65 rfl rfl rfl (by omega) (by omega) ?_
      refine st_aload_n dX7_cut_66 rfl ?_
      refine st_getr (i' := 0) dX7_cut_67 fl_X7_7 rfl rfl rfl (fun _ => by decide) ?_
      refine st_iconst dX7_cut_70 (by decide) ?_
      refine st_iload_n dX7_cut_71 rfl ?_
      refine st_iadd dX7_cut_72 (by omega) ?_
      refine st_iconst dX7_cut_73 (by decide) ?_
      refine st_isub dX7_cut_74 (by omega) ?_
      refine st_iconst dX7_cut_75 (by decide) ?_
      refine st_iast (j := (4 + (2 * w - 2))) dX7_cut_76 rfl rfl rfl (by omega) (by omega) ?_
      refine st_aload_n dX7_cut_77 rfl ?_
      refine st_getr (i' := 0) dX7_cut_78 fl_X7_7 rfl rfl rfl (fun _ => by decide) ?_
      refine st_iconst dX7_cut_81 (by decide) ?_
      refine st_dup2 dX7_cut_82 rfl rfl ?_
      refine st_iald (j := 0) dX7_cut_83 rfl rfl rfl rfl (by decide) ?_
      refine fAt_v (x' := (w : Int)) ((fup_ne (by omega)).trans ((fup_ne (by omega)).trans (by unfold ctS; rw [if_neg (by omega)]; exact hw))) ?_
      refine st_iconst dX7_cut_84 (by decide) ?_
      refine st_isub dX7_cut_85 (by omega) ?_
      refine st_iast (j := 0) dX7_cut_86 rfl rfl rfl rfl (by decide) ?_
      refine st_aload_n dX7_cut_87 rfl ?_
      refine st_getr (i' := 0) dX7_cut_88 fl_X7_7 rfl rfl rfl (fun _ => by decide) ?_
      refine st_bipush dX7_cut_91 (by decide) ?_
      refine st_aload_n dX7_cut_93 rfl ?_
      refine st_getr (i' := 0) dX7_cut_94 fl_X7_7 rfl rfl rfl (fun _ => by decide) ?_
      refine st_iconst dX7_cut_97 (by decide) ?_
      refine st_iald (j := 0) dX7_cut_98 rfl rfl rfl rfl (by decide) ?_
      refine fAt_v (x' := (w : Int) - 1) fup_eq ?_
      refine st_iadd dX7_cut_99 (by omega) ?_
      refine st_iconst dX7_cut_100 (by decide) ?_
      refine st_iast (j := (15 + (w - 1))) dX7_cut_101 rfl rfl rfl (by omega) (by omega) ?_
      refine fAt_m (mCt_e M w hw1) ?_
      refine st_aload_n dX7_cut_102 rfl ?_
      refine st_getr (i' := 0) dX7_cut_103 fl_X7_7 rfl rfl rfl (fun _ => by decide) ?_
      refine st_iconst dX7_cut_106 (by decide) ?_
      refine st_iald (j := 0) dX7_cut_107 rfl rfl rfl rfl (by decide) ?_
      refine fAt_v (x' := (w : Int) - 1) rfl ?_
      refine st_ireturn dX7_cut_108 rfl ⟨_, rfl, ⟨rfl, rfl⟩⟩
    · skip
      exact absurd h28 (by omega)
  | succ n ih =>
    intro c hm
    refine st_iload_n dX7_cut_24 rfl ?_
    refine st_iload_n dX7_cut_25 rfl ?_
    refine st_iconst dX7_cut_26 (by decide) ?_
    refine st_isub dX7_cut_27 (by omega) ?_
    refine st_icmp_ge 55 dX7_cut_28 (by decide) (fun h28 => ?_) (fun h28 => ?_)
    · skip
      exact absurd h28 (by omega)
    · skip
      refine st_aload_n dX7_cut_31 rfl ?_
      refine st_getr (i' := 0) dX7_cut_32 fl_X7_7 rfl rfl rfl (fun _ => by decide) ?_
      refine st_iconst dX7_cut_35 (by decide) ?_
      refine st_iload_n dX7_cut_36 rfl ?_
      refine st_iadd dX7_cut_37 (by omega) ?_
      refine st_aload_n dX7_cut_38 rfl ?_
      refine st_getr (i' := 0) dX7_cut_39 fl_X7_7 rfl rfl rfl (fun _ => by decide) ?_
      refine st_iconst dX7_cut_42 (by decide) ?_
      refine st_iload_n dX7_cut_43 rfl ?_
      refine st_iadd dX7_cut_44 (by omega) ?_
      refine st_iconst dX7_cut_45 (by decide) ?_
      refine st_iadd dX7_cut_46 (by omega) ?_
      refine st_iald (j := (4 + c + 1)) dX7_cut_47 rfl rfl rfl (by omega) (by omega) ?_
      refine fAt_v (x' := M 23 0 (4 + c + 1)) (by unfold ctS; rw [if_neg (by omega)]) ?_
      refine st_iast (j := (4 + c)) dX7_cut_48 rfl rfl rfl (by omega) (by omega) ?_
      refine fAt_m (ctS_s M c) ?_
      refine st_iinc (ls' := [some (vr 22 0), some (vi (((2 * w - 1) : Nat) : Int)), some (vi ((c : Int) + 1))]) dX7_cut_49 rfl (by omega) (by decide) rfl rfl ?_
      refine st_goto 24 dX7_cut_52 (by decide) ?_
      exact ih (c + 1) (by omega)
set_option maxHeartbeats 4000000 in
set_option maxRecDepth 100000 in
theorem m_cut {g : fG} {M : fM} {w : Nat} {p : Int} (hn : nOk M w p) {kn : Nat} (hk : M 22 0 9 = (kn : Int)) (hk8 : kn ≤ 8) :
    fCi g Y_X7_cut [vr 22 0] M (fun z M' => (w = 1 ∧ z = -2 ∧ M' = M) ∨ (1 < w ∧ z = (w : Int) - 1 ∧ M' = mCt (nt M kn) w)) := by
  have hw1 := hn.2.2.2.1
  have hp2 := hn.2.2.1.1
  refine fCi_of _ [some (vr 22 0), none, none] (by decide) (Nat.le_of_ble_eq_true rfl) rfl (fun h => h) ?_
  refine st_aload_n dX7_cut_0 rfl ?_
  refine st_callVi [] [] dX7_cut_1 vl_X7_61 rfl rfl rfl rfl (Nat.le_of_ble_eq_true rfl) (by decide) (m_lines hn.1 hn.2.2.2.1) (fun zl Ml ql => ?_)
  obtain ⟨rfl, q⟩ := ql
  subst Ml
  refine st_istore_n (ls' := [some (vr 22 0), some (vi (((2 * w - 1) : Nat) : Int)), none]) dX7_cut_4 (by decide) rfl rfl ?_
  refine st_aload_n dX7_cut_5 rfl ?_
  refine st_getr (i' := 0) dX7_cut_6 fl_X7_7 rfl rfl rfl (fun _ => by decide) ?_
  refine st_iconst dX7_cut_9 (by decide) ?_
  refine st_iald (j := 0) dX7_cut_10 rfl rfl rfl rfl (by decide) ?_
  refine fAt_v (x' := (w : Int)) hn.1 ?_
  refine st_iconst dX7_cut_11 (by decide) ?_
  refine st_icmp_ne 18 dX7_cut_12 (by decide) (fun h12 => ?_) (fun h12 => ?_)
  · skip
    refine st_aload_n dX7_cut_18 rfl ?_
    refine st_callVv [] [] dX7_cut_19 vl_X7_166 rfl rfl rfl rfl (Nat.le_of_ble_eq_true rfl) (by decide) (m_notes hk hk8) (fun Mr qr => ?_)
    subst qr
    refine st_iconst dX7_cut_22 (by decide) ?_
    refine st_istore_n (ls' := [some (vr 22 0), some (vi (((2 * w - 1) : Nat) : Int)), some (vi 0)]) dX7_cut_23 (by decide) rfl rfl ?_
    refine fAt_m (ctS_0 _).symm ?_
    refine fAt_q (fun r M' h => ?_) (cut_l (M := nt M kn) (w := w) (by rw [nt_ne (by decide) (by omega)]; exact hn.1) (by omega) (2 * w - 3) 0 (by omega))
    obtain ⟨z, e, h1, h2⟩ := h
    exact ⟨z, e, Or.inr ⟨by omega, h1, h2⟩⟩
  · skip
    refine st_bipush dX7_cut_15 (by decide) ?_
    refine st_ireturn dX7_cut_17 rfl ⟨_, rfl, Or.inl ⟨by omega, rfl, rfl⟩⟩
def mRv (N : fM) (L n : Nat) : fM := fun k a b => if k = 23 ∧ a = 0 ∧ ((4 ≤ b ∧ b < 4 + n) ∨ (4 + L < n + b ∧ b ≤ 4 + L)) then N 23 0 (8 + L - b) else N k a b
theorem mRv_0 (N : fM) (L : Nat) : mRv N L 0 = N := by
  funext k a b
  unfold mRv
  rw [if_neg (by omega)]
theorem mRv_off {N : fM} {L n k a b : Nat} (h : ¬ (k = 23 ∧ a = 0 ∧ ((4 ≤ b ∧ b < 4 + n) ∨ (4 + L < n + b ∧ b ≤ 4 + L)))) : mRv N L n k a b = N k a b := by
  unfold mRv
  rw [if_neg h]
theorem mRv_s {N : fM} {L n : Nat} (h : n + n < L) : fup (fup (mRv N L n) 23 0 (4 + n) (N 23 0 (4 + L - n))) 23 0 (4 + L - n) (N 23 0 (4 + n)) = mRv N L (n + 1) := by
  funext k a b
  simp only [fup, mRv]
  by_cases e1 : k = 23 ∧ a = 0 ∧ b = 4 + L - n
  · rw [if_pos e1, if_pos (by omega)]; congr 1; omega
  · rw [if_neg e1]
    by_cases e2 : k = 23 ∧ a = 0 ∧ b = 4 + n
    · rw [if_pos e2, if_pos (by omega)]; congr 1; omega
    · rw [if_neg e2]
      by_cases e3 : k = 23 ∧ a = 0 ∧ ((4 ≤ b ∧ b < 4 + n) ∨ (4 + L < n + b ∧ b ≤ 4 + L))
      · rw [if_pos e3, if_pos (by omega)]
      · rw [if_neg e3, if_neg (by omega)]
def mTn (N : fM) (w : Nat) : fM := fun k a b => if k = 23 ∧ a = 0 ∧ 4 ≤ b ∧ b < 4 + (2 * w - 1) then N 23 0 (4 + (2 * w - 2 - (b - 4))) else N k a b
theorem mRv_e {N : fM} {w : Nat} (hw : 1 ≤ w) : mRv N (2 * w - 2) (w - 1) = mTn N w := by
  funext k a b
  simp only [mRv, mTn]
  by_cases e : k = 23 ∧ a = 0 ∧ 4 ≤ b ∧ b < 4 + (2 * w - 1)
  · rw [if_pos e]
    by_cases e2 : b = 4 + (w - 1)
    · rw [if_neg (by omega), e.1, e.2.1]; congr 1; omega
    · rw [if_pos (by omega)]; congr 1; omega
  · rw [if_neg e, if_neg (by omega)]
theorem mTn_n {N : fM} {w : Nat} {p : Int} (h : nOk N w p) : nOk (mTn N w) w p := by
  obtain ⟨h1, h2, h3, h4, h5, h6, h7, h8⟩ := h
  have e : ∀ b, ¬ (4 ≤ b ∧ b < 4 + (2 * w - 1)) → mTn N w 23 0 b = N 23 0 b := fun b hb => by
    unfold mTn
    rw [if_neg (by omega)]
  refine ⟨by rw [e 0 (by omega)]; exact h1, by rw [e 2 (by omega)]; exact h2, h3, h4, by rw [e 1 (by omega)]; exact h5, fun q hq => ?_, fun q hq => ?_, by rw [e 3 (by omega)]; exact h8⟩
  · show 0 ≤ mTn N w 23 0 (4 + q) ∧ mTn N w 23 0 (4 + q) < p
    unfold mTn
    rw [if_pos ⟨rfl, rfl, by omega, by omega⟩]
    exact h6 _ (by omega)
  · show 0 ≤ mTn N w 23 0 (15 + q) ∧ mTn N w 23 0 (15 + q) < p
    rw [e (15 + q) (by omega)]
    exact h7 q hq
theorem nt_n {M : fM} {kn w : Nat} {p : Int} (h : nOk M w p) : nOk (nt M kn) w p := nOk_k h (fun b => nt_ne (by decide) (by omega))
set_option maxHeartbeats 4000000 in
set_option maxRecDepth 100000 in
theorem turn_l {g : fG} {M : fM} {w : Nat} {p : Int} (hn : nOk M w p) :
    ∀ (n c : Nat), c + n = w - 1 → fAt g Y_X7_turn 15 [some (vr 22 0), some (vi ((4 + c : Nat) : Int)), some (vi ((4 + (2 * w - 2) - c : Nat) : Int)), none] [] (mRv M (2 * w - 2) c) (fI (fun z M' => z = dt w (eN (mTn M w) w p) % p ∧ mS (mTn M w) M')) := by
  have hw1 := hn.2.2.2.1
  have hp2 := hn.2.2.1.1
  intro n
  induction n with
  | zero =>
    intro c hm
    refine st_iload_n dX7_turn_15 rfl ?_
    refine st_iload_n dX7_turn_16 rfl ?_
    refine st_icmp_ge 55 dX7_turn_17 (by decide) (fun h17 => ?_) (fun h17 => ?_)
    · skip
      refine fAt_m (show _ = mTn M w from by rw [show c = w - 1 by omega]; exact mRv_e (by omega)) ?_
      refine st_aload_n dX7_turn_55 rfl ?_
      refine st_aload_n dX7_turn_56 rfl ?_
      refine st_getr (i' := 0) dX7_turn_57 fl_X7_7 rfl rfl rfl (fun _ => by decide) ?_
      refine st_iconst dX7_turn_60 (by decide) ?_
      refine st_iald (j := 0) dX7_turn_61 rfl rfl rfl rfl (by decide) ?_
      refine fAt_v (x' := (w : Int)) (mTn_n hn).1 ?_
      refine st_callVi [vi (w : Int)] [] dX7_turn_62 vl_X7_117 rfl rfl rfl rfl (Nat.le_of_ble_eq_true rfl) (by decide) (m_cornerOf (mTn_n hn) (Nat.le_refl w)) (fun z Ma qa => ?_)
      obtain ⟨rfl, D, rfl⟩ := qa
      refine st_ireturn dX7_turn_65 rfl ⟨_, rfl, ⟨rfl, mS_W⟩⟩
    · skip
      exact absurd h17 (by omega)
  | succ n ih =>
    intro c hm
    refine st_iload_n dX7_turn_15 rfl ?_
    refine st_iload_n dX7_turn_16 rfl ?_
    refine st_icmp_ge 55 dX7_turn_17 (by decide) (fun h17 => ?_) (fun h17 => ?_)
    · skip
      exact absurd h17 (by omega)
    · skip
      refine st_aload_n dX7_turn_20 rfl ?_
      refine st_getr (i' := 0) dX7_turn_21 fl_X7_7 rfl rfl rfl (fun _ => by decide) ?_
      refine st_iload_n dX7_turn_24 rfl ?_
      refine st_iald (j := (4 + c)) dX7_turn_25 rfl rfl rfl rfl (by omega) ?_
      refine fAt_v (x' := M 23 0 (4 + c)) (mRv_off (by omega)) ?_
      refine st_istore_n (ls' := [some (vr 22 0), some (vi ((4 + c : Nat) : Int)), some (vi ((4 + (2 * w - 2) - c : Nat) : Int)), some (vi (M 23 0 (4 + c)))]) dX7_turn_26 (by decide) rfl rfl ?_
      refine st_aload_n dX7_turn_27 rfl ?_
      refine st_getr (i' := 0) dX7_turn_28 fl_X7_7 rfl rfl rfl (fun _ => by decide) ?_
      refine st_iload_n dX7_turn_31 rfl ?_
      refine st_aload_n dX7_turn_32 rfl ?_
      refine st_getr (i' := 0) dX7_turn_33 fl_X7_7 rfl rfl rfl (fun _ => by decide) ?_
      refine st_iload_n dX7_turn_36 rfl ?_
      refine st_iald (j := (4 + (2 * w - 2) - c)) dX7_turn_37 rfl rfl rfl rfl (by omega) ?_
      refine fAt_v (x' := M 23 0 (4 + (2 * w - 2) - c)) (mRv_off (by omega)) ?_
      refine st_iast (j := (4 + c)) dX7_turn_38 rfl rfl rfl rfl (by omega) ?_
      refine st_aload_n dX7_turn_39 rfl ?_
      refine st_getr (i' := 0) dX7_turn_40 fl_X7_7 rfl rfl rfl (fun _ => by decide) ?_
      refine st_iload_n dX7_turn_43 rfl ?_
      refine st_iload_n dX7_turn_44 rfl ?_
      refine st_iast (j := (4 + (2 * w - 2) - c)) dX7_turn_45 rfl rfl rfl rfl (by omega) ?_
      refine fAt_m (mRv_s (by omega)) ?_
      refine st_iinc (ls' := [some (vr 22 0), some (vi (((4 + c : Nat) : Int) + 1)), some (vi ((4 + (2 * w - 2) - c : Nat) : Int)), some (vi (M 23 0 (4 + c)))]) dX7_turn_46 rfl (by omega) (by decide) rfl rfl ?_
      refine st_iinc (ls' := [some (vr 22 0), some (vi (((4 + c : Nat) : Int) + 1)), some (vi (((4 + (2 * w - 2) - c : Nat) : Int) + (-1))), some (vi (M 23 0 (4 + c)))]) dX7_turn_49 rfl (by omega) (by decide) rfl rfl ?_
      refine st_goto 15 dX7_turn_52 (by decide) ?_
      refine fAt_del 3 rfl ?_
      refine fAt_ls (ls' := [some (vr 22 0), some (vi ((4 + (c + 1) : Nat) : Int)), some (vi ((4 + (2 * w - 2) - (c + 1) : Nat) : Int)), none]) (by rw [show ((4 + (2 * w - 2) - (c + 1) : Nat) : Int) = ((4 + (2 * w - 2) - c : Nat) : Int) + (-1) by omega]; rfl) ?_
      exact ih (c + 1) (by omega)
set_option maxHeartbeats 4000000 in
set_option maxRecDepth 100000 in
theorem m_turn {g : fG} {M : fM} {w : Nat} {p : Int} (hn : nOk M w p) {kn : Nat} (hk : M 22 0 9 = (kn : Int)) (hk8 : kn ≤ 8) :
    fCi g Y_X7_turn [vr 22 0] M (fun z M' => z = dt w (eN (mTn (nt M kn) w) w p) % p ∧ mS (mTn (nt M kn) w) M') := by
  have hw1 := hn.2.2.2.1
  have hp2 := hn.2.2.1.1
  refine fCi_of _ [some (vr 22 0), none, none, none] (by decide) (Nat.le_of_ble_eq_true rfl) rfl (fun h => h) ?_
  refine st_aload_n dX7_turn_0 rfl ?_
  refine st_callVv [] [] dX7_turn_1 vl_X7_166 rfl rfl rfl rfl (Nat.le_of_ble_eq_true rfl) (by decide) (m_notes hk hk8) (fun Mr qr => ?_)
  subst qr
  refine st_iconst dX7_turn_4 (by decide) ?_
  refine st_istore_n (ls' := [some (vr 22 0), some (vi 4), none, none]) dX7_turn_5 (by decide) rfl rfl ?_
  refine st_iconst dX7_turn_6 (by decide) ?_
  refine st_aload_n dX7_turn_7 rfl ?_
  refine st_callVi [] [vi 4] dX7_turn_8 vl_X7_61 rfl rfl rfl rfl (Nat.le_of_ble_eq_true rfl) (by decide) (m_lines (nt_n hn).1 hn.2.2.2.1) (fun zl Ml ql => ?_)
  obtain ⟨rfl, q⟩ := ql
  subst Ml
  refine st_iadd dX7_turn_11 (by omega) ?_
  refine st_iconst dX7_turn_12 (by decide) ?_
  refine st_isub dX7_turn_13 (by omega) ?_
  refine st_istore_n (ls' := [some (vr 22 0), some (vi 4), some (vi ((4 + (((2 * w - 1) : Nat) : Int)) - 1)), none]) dX7_turn_14 (by decide) rfl rfl ?_
  refine fAt_m (mRv_0 _ (2 * w - 2)).symm ?_
  refine fAt_ls (ls' := [some (vr 22 0), some (vi ((4 + 0 : Nat) : Int)), some (vi ((4 + (2 * w - 2) - 0 : Nat) : Int)), none]) (by rw [show ((4 + (2 * w - 2) - 0 : Nat) : Int) = 4 + ((2 * w - 1 : Nat) : Int) - 1 by omega]; rfl) ?_
  exact turn_l (nt_n hn) (w - 1) 0 (by omega)
def unS (M : fM) (u c : Nat) : fM := fun k a b => if k = 23 ∧ a = 0 ∧ b < c then M 28 0 (21 * u + b) else M k a b
theorem unS_s (M : fM) (u c : Nat) : fup (unS M u c) 23 0 c (M 28 0 (21 * u + c)) = unS M u (c + 1) := by
  funext k a b
  simp only [unS, fup]
  grind (splits := 40)
theorem unS_0 (M : fM) (u : Nat) : unS M u 0 = M := by
  funext k a b
  unfold unS
  rw [if_neg (by omega)]
set_option maxHeartbeats 4000000 in
set_option maxRecDepth 100000 in
theorem undo_l {g : fG} {M : fM} {u : Nat} (hu : M 22 0 9 = (u : Int)) (hu7 : u ≤ 7) :
    ∀ (n c : Nat), c + n = 21 → fAt g Y_X7_undo 22 [some (vr 22 0), some (vi (c : Int))] [] (unS M u c) (fI (fun z M' => z = (u : Int) ∧ M' = unS M u 21)) := by
  intro n
  induction n with
  | zero =>
    intro c hm
    refine st_iload_n dX7_undo_22 rfl ?_
    refine st_bipush dX7_undo_23 (by decide) ?_
    refine st_icmp_ge 54 dX7_undo_25 (by decide) (fun h25 => ?_) (fun h25 => ?_)
    · skip
      refine st_aload_n dX7_undo_54 rfl ?_
      refine st_get dX7_undo_55 fl_X7_108 rfl rfl rfl ?_
      refine fAt_v (x' := (u : Int)) (by unfold unS; rw [if_neg (by omega)]; exact hu) ?_
      refine st_ireturn dX7_undo_58 rfl ⟨_, rfl, ⟨rfl, by rw [show c = 21 by omega]⟩⟩
    · skip
      exact absurd h25 (by omega)
  | succ n ih =>
    intro c hm
    refine st_iload_n dX7_undo_22 rfl ?_
    refine st_bipush dX7_undo_23 (by decide) ?_
    refine st_icmp_ge 54 dX7_undo_25 (by decide) (fun h25 => ?_) (fun h25 => ?_)
    · skip
      exact absurd h25 (by omega)
    · skip
      refine st_aload_n dX7_undo_28 rfl ?_
      refine st_getr (i' := 0) dX7_undo_29 fl_X7_7 rfl rfl rfl (fun _ => by decide) ?_
      refine st_iload_n dX7_undo_32 rfl ?_
      refine st_aload_n dX7_undo_33 rfl ?_
      refine st_getr (i' := 0) dX7_undo_34 fl_X7_25 rfl rfl rfl (fun _ => by decide) ?_
      refine st_bipush dX7_undo_37 (by decide) ?_
      refine st_aload_n dX7_undo_39 rfl ?_
      refine st_get dX7_undo_40 fl_X7_108 rfl rfl rfl ?_
      refine fAt_v (x' := (u : Int)) (by unfold unS; rw [if_neg (by omega)]; exact hu) ?_
      refine st_imul dX7_undo_43 (by omega) ?_
      refine st_iload_n dX7_undo_44 rfl ?_
      refine st_iadd dX7_undo_45 (by omega) ?_
      refine st_iald (j := (21 * u + c)) dX7_undo_46 rfl rfl rfl (by omega) (by omega) ?_
      refine fAt_v (x' := M 28 0 (21 * u + c)) (by unfold unS; rw [if_neg (by omega)]) ?_
      refine st_iast (j := c) dX7_undo_47 rfl rfl rfl rfl (by omega) ?_
      refine fAt_m (unS_s M u c) ?_
      refine st_iinc (ls' := [some (vr 22 0), some (vi ((c : Int) + 1))]) dX7_undo_48 rfl (by omega) (by decide) rfl rfl ?_
      refine st_goto 22 dX7_undo_51 (by decide) ?_
      exact ih (c + 1) (by omega)
set_option maxHeartbeats 4000000 in
set_option maxRecDepth 100000 in
theorem m_undo {g : fG} {M : fM} {kn : Nat} (hk : M 22 0 9 = (kn : Int)) (hk8 : kn ≤ 8) :
    fCi g Y_X7_undo [vr 22 0] M (fun z M' => (kn = 0 ∧ z = -4 ∧ M' = M) ∨ (0 < kn ∧ z = (kn : Int) - 1 ∧ M' = unS (fup M 22 0 9 ((kn : Int) - 1)) (kn - 1) 21)) := by
  refine fCi_of _ [some (vr 22 0), none] (by decide) (Nat.le_of_ble_eq_true rfl) rfl (fun h => h) ?_
  refine st_aload_n dX7_undo_0 rfl ?_
  refine st_get dX7_undo_1 fl_X7_108 rfl rfl rfl ?_
  refine fAt_v (x' := (kn : Int)) hk ?_
  refine st_if_ne 10 dX7_undo_4 (by decide) (fun h4 => ?_) (fun h4 => ?_)
  · skip
    refine st_aload_n dX7_undo_10 rfl ?_
    refine st_dup dX7_undo_11 rfl ?_
    refine st_get dX7_undo_12 fl_X7_108 rfl rfl rfl ?_
    refine fAt_v (x' := (kn : Int)) hk ?_
    refine st_iconst dX7_undo_15 (by decide) ?_
    refine st_isub dX7_undo_16 (by omega) ?_
    refine st_put dX7_undo_17 fl_X7_108 fp_X7_9.1 (Or.inl fp_X7_9.2) rfl rfl rfl ?_
    refine st_iconst dX7_undo_20 (by decide) ?_
    refine st_istore_n (ls' := [some (vr 22 0), some (vi 0)]) dX7_undo_21 (by decide) rfl rfl ?_
    refine fAt_m (unS_0 _ (kn - 1)).symm ?_
    refine fAt_q (fun r M' h => ?_) (undo_l (u := kn - 1) (by rw [fup_eq]; omega) (by omega) 21 0 (by omega))
    obtain ⟨z, e, h1, h2⟩ := h
    exact ⟨z, e, Or.inr ⟨by omega, by omega, h2⟩⟩
  · skip
    refine st_bipush dX7_undo_7 (by decide) ?_
    refine st_ireturn dX7_undo_9 rfl ⟨_, rfl, Or.inl ⟨by omega, rfl, rfl⟩⟩
set_option maxHeartbeats 4000000 in
set_option maxRecDepth 100000 in
theorem m_seed {g : fG} {M : fM} {v : Int} :
    fCi g Y_X7_seed [vr 22 0, vi v] M (fun z M' => (v < 0 ∧ z = -1 ∧ M' = M) ∨ (0 ≤ v ∧ z = M 23 0 3 ∧ M' = fup M 23 0 3 v)) := by
  refine fCi_of _ [some (vr 22 0), some (vi v), none] (by decide) (Nat.le_of_ble_eq_true rfl) rfl (fun h => h) ?_
  refine st_iload_n dX7_seed_0 rfl ?_
  refine st_if_ge 6 dX7_seed_1 (by decide) (fun h1 => ?_) (fun h1 => ?_)
  · skip
    refine st_aload_n dX7_seed_6 rfl ?_
    refine st_getr (i' := 0) dX7_seed_7 fl_X7_7 rfl rfl rfl (fun _ => by decide) ?_
    refine st_iconst dX7_seed_10 (by decide) ?_
    refine st_iald (j := 3) dX7_seed_11 rfl rfl rfl rfl (by decide) ?_
    refine st_istore_n (ls' := [some (vr 22 0), some (vi v), some (vi (M 23 0 3))]) dX7_seed_12 (by decide) rfl rfl ?_
    refine st_aload_n dX7_seed_13 rfl ?_
    refine st_getr (i' := 0) dX7_seed_14 fl_X7_7 rfl rfl rfl (fun _ => by decide) ?_
    refine st_iconst dX7_seed_17 (by decide) ?_
    refine st_iload_n dX7_seed_18 rfl ?_
    refine st_iast (j := 3) dX7_seed_19 rfl rfl rfl rfl (by decide) ?_
    refine st_iload_n dX7_seed_20 rfl ?_
    refine st_ireturn dX7_seed_21 rfl ⟨_, rfl, Or.inr ⟨by omega, rfl, rfl⟩⟩
  · skip
    refine st_iconst dX7_seed_4 (by decide) ?_
    refine st_ireturn dX7_seed_5 rfl ⟨_, rfl, Or.inl ⟨by omega, rfl, rfl⟩⟩
set_option maxHeartbeats 4000000 in
set_option maxRecDepth 100000 in
theorem m_corner {g : fG} {M : fM} {w : Nat} {p : Int} (hn : nOk M w p) {x : Int} :
    fCi g Y_X7_corner [vr 22 0, vi x] M (fun z M' => z = (if 0 ≤ x ∧ x ≤ (w : Int) then dt x.toNat (eN M w p) % p else -1) ∧ mS M M') := by
  have hw1 := hn.2.2.2.1
  have hp2 := hn.2.2.1.1
  refine fCi_of _ [some (vr 22 0), some (vi x)] (by decide) (Nat.le_of_ble_eq_true rfl) rfl (fun h => h) ?_
  refine st_iload_n dX7_corner_0 rfl ?_
  refine st_i2l dX7_corner_1 ?_
  refine st_lconst0 dX7_corner_2 ?_
  refine st_aload_n dX7_corner_3 rfl ?_
  refine st_getr (i' := 0) dX7_corner_4 fl_X7_7 rfl rfl rfl (fun _ => by decide) ?_
  refine st_iconst dX7_corner_7 (by decide) ?_
  refine st_iald (j := 0) dX7_corner_8 rfl rfl rfl rfl (by decide) ?_
  refine fAt_v (x' := (w : Int)) hn.1 ?_
  refine st_i2l dX7_corner_9 ?_
  refine st_callSi [vl x, vl 0, vl (w : Int)] [] dX7_corner_10 sl_X7_57 rfl rfl (Nat.le_of_ble_eq_true rfl) (by decide) (m_in) (fun za Ma qa => ?_)
  obtain ⟨qa, rfl⟩ := qa
  rcases qa with ⟨rfl, aa⟩ | ⟨rfl, aa⟩
  · skip
    refine st_if_eq 24 dX7_corner_13 (by decide) (fun h13 => ?_) (fun h13 => ?_)
    · skip
      exact absurd h13 (by omega)
    · skip
      refine st_aload_n dX7_corner_16 rfl ?_
      refine st_iload_n dX7_corner_17 rfl ?_
      refine fAt_v (x' := ((x.toNat : Nat) : Int)) (by omega) ?_
      refine st_callVi [vi ((x.toNat : Nat) : Int)] [] dX7_corner_18 vl_X7_117 rfl rfl rfl rfl (Nat.le_of_ble_eq_true rfl) (by decide) (m_cornerOf hn (by omega)) (fun z Mc qc => ?_)
      obtain ⟨rfl, D, rfl⟩ := qc
      refine st_goto 25 dX7_corner_21 (by decide) ?_
      refine st_ireturn dX7_corner_25 rfl ⟨_, rfl, ?_⟩
      first | exact ⟨by rw [if_pos (by omega)], mS_W⟩ | exact ⟨by rw [if_neg (by omega)], mS_r _⟩
  · skip
    refine st_if_eq 24 dX7_corner_13 (by decide) (fun h13 => ?_) (fun h13 => ?_)
    · skip
      refine st_iconst dX7_corner_24 (by decide) ?_
      refine st_ireturn dX7_corner_25 rfl ⟨_, rfl, ?_⟩
      first | exact ⟨by rw [if_pos (by omega)], mS_W⟩ | exact ⟨by rw [if_neg (by omega)], mS_r _⟩
    · skip
      exact absurd h13 (by omega)
def mdf (N : fM) (w : Nat) (p : Int) : fM := fun k a b => if k = 23 ∧ a = 0 ∧ b = 4 + (dDr (N 23 0 3) / 65536 % ((2 * w - 1 : Nat) : Int)).toNat then dDr (N 23 0 3) / 256 % p else if k = 23 ∧ a = 0 ∧ b = 3 then dDr (N 23 0 3) else N k a b
def md1 (M : fM) (kn w : Nat) (p : Int) : fM := mdf (nt M kn) w p
def mdN : Nat → fM → Nat → Nat → Int → fM
  | 0, M, _, _, _ => M
  | n + 1, M, kn, w, p => mdN n (md1 M kn w p) (dkn kn) w p
theorem dDr_b (d : Int) : 0 ≤ dDr d ∧ dDr d < 2147483648 := modb (by decide)
theorem mdf_n {N : fM} {w : Nat} {p : Int} (h : nOk N w p) : nOk (mdf N w p) w p := by
  obtain ⟨h1, h2, h3, h4, h5, h6, h7, h8⟩ := h
  have hp2 := h3.1
  have hd := dDr_b (N 23 0 3)
  have hpl := modb (x := dDr (N 23 0 3) / 65536) (p := ((2 * w - 1 : Nat) : Int)) (by omega)
  have e : ∀ b, b ≠ 3 → ¬ (4 ≤ b ∧ b < 4 + (2 * w - 1)) → mdf N w p 23 0 b = N 23 0 b := fun b hb hb2 => by
    unfold mdf
    rw [if_neg (by omega), if_neg (by omega)]
  refine ⟨by rw [e 0 (by omega) (by omega)]; exact h1, by rw [e 2 (by omega) (by omega)]; exact h2, h3, h4, by rw [e 1 (by omega) (by omega)]; exact h5, fun q hq => ?_, fun q hq => ?_, ?_⟩
  · show 0 ≤ mdf N w p 23 0 (4 + q) ∧ mdf N w p 23 0 (4 + q) < p
    unfold mdf
    split
    · exact modb (by omega)
    · rw [if_neg (by omega)]; exact h6 q hq
  · show 0 ≤ mdf N w p 23 0 (15 + q) ∧ mdf N w p 23 0 (15 + q) < p
    rw [e (15 + q) (by omega) (by omega)]
    exact h7 q hq
  · unfold mdf
    rw [if_neg (by omega), if_pos ⟨rfl, rfl, rfl⟩]
    omega
theorem md1_n {M : fM} {kn w : Nat} {p : Int} (h : nOk M w p) : nOk (md1 M kn w p) w p := mdf_n (nt_n h)
theorem md1_k {M : fM} {kn w : Nat} {p : Int} (h8 : kn ≤ 8) : md1 M kn w p 22 0 9 = ((dkn kn : Nat) : Int) := by
  unfold md1 mdf
  rw [if_neg (by omega), if_neg (by omega), nt_u h8]
theorem dkn_8 {kn : Nat} (h : kn ≤ 8) : dkn kn ≤ 8 := by
  unfold dkn
  split <;> omega
set_option maxHeartbeats 4000000 in
set_option maxRecDepth 100000 in
theorem m_drift_l {g : fG} {w n : Nat} {p : Int} (hn4 : n ≤ 40) :
    ∀ (m t : Nat) (M : fM) (kn : Nat), t + m = n → nOk M w p → M 22 0 9 = (kn : Int) → kn ≤ 8 → fAt g Y_X7_drift 16 [some (vr 22 0), some (vi (n : Int)), some (vi (t : Int)), none, none] [] M (fI (fun z M' => z = dt w (eN (mdN m M kn w p) w p) % p ∧ mS (mdN m M kn w p) M')) := by
  intro m
  induction m with
  | zero =>
    intro t M kn htn hn hk hk8
    have hw1 := hn.2.2.2.1
    have hp2 := hn.2.2.1.1
    refine st_iload_n dX7_drift_16 rfl ?_
    refine st_iload_n dX7_drift_17 rfl ?_
    refine st_icmp_ge 97 dX7_drift_18 (by decide) (fun h18 => ?_) (fun h18 => ?_)
    · skip
      refine st_aload_n dX7_drift_97 rfl ?_
      refine st_aload_n dX7_drift_98 rfl ?_
      refine st_getr (i' := 0) dX7_drift_99 fl_X7_7 rfl rfl rfl (fun _ => by decide) ?_
      refine st_iconst dX7_drift_102 (by decide) ?_
      refine st_iald (j := 0) dX7_drift_103 rfl rfl rfl rfl (by decide) ?_
      refine fAt_v (x' := (w : Int)) hn.1 ?_
      refine st_callVi [vi (w : Int)] [] dX7_drift_104 vl_X7_117 rfl rfl rfl rfl (Nat.le_of_ble_eq_true rfl) (by decide) (m_cornerOf hn (Nat.le_refl w)) (fun z Ma qa => ?_)
      obtain ⟨rfl, D, rfl⟩ := qa
      refine st_ireturn dX7_drift_107 rfl ⟨_, rfl, ⟨rfl, mS_W⟩⟩
    · skip
      exact absurd h18 (by omega)
  | succ m ih =>
    intro t M kn htn hn hk hk8
    have hw1 := hn.2.2.2.1
    have hp2 := hn.2.2.1.1
    refine st_iload_n dX7_drift_16 rfl ?_
    refine st_iload_n dX7_drift_17 rfl ?_
    refine st_icmp_ge 97 dX7_drift_18 (by decide) (fun h18 => ?_) (fun h18 => ?_)
    · skip
      exact absurd h18 (by omega)
    · skip
      refine st_aload_n dX7_drift_21 rfl ?_
      refine st_callVv [] [] dX7_drift_22 vl_X7_166 rfl rfl rfl rfl (Nat.le_of_ble_eq_true rfl) (by decide) (m_notes hk hk8) (fun Mr qr => ?_)
      subst qr
      have hnt := nt_n (kn := kn) hn
      have hdr := hnt.2.2.2.2.2.2.2
      have hdd := dDr_b (nt M kn 23 0 3)
      have hpl := modb (x := dDr (nt M kn 23 0 3) / 65536) (p := ((2 * w - 1 : Nat) : Int)) (by omega)
      refine st_aload_n dX7_drift_25 rfl ?_
      refine st_getr (i' := 0) dX7_drift_26 fl_X7_7 rfl rfl rfl (fun _ => by decide) ?_
      refine st_iconst dX7_drift_29 (by decide) ?_
      refine st_iald (j := 3) dX7_drift_30 rfl rfl rfl rfl (by decide) ?_
      refine st_i2l dX7_drift_31 ?_
      refine st_ldc2 (v := 1103515245) (1103515245) dX7_drift_32 (ftb_in 920 (by decide +kernel) rfl) (by decide +kernel) ?_
      refine st_lmul dX7_drift_35 (by omega) ?_
      refine st_ldc2 (v := 12345) (12345) dX7_drift_36 (ftb_in 921 (by decide +kernel) rfl) (by decide +kernel) ?_
      refine st_ladd dX7_drift_39 (by omega) ?_
      refine st_ldc2 (v := 2147483648) (2147483648) dX7_drift_40 (ftb_in 922 (by decide +kernel) rfl) (by decide +kernel) ?_
      refine st_lrem dX7_drift_43 (by omega) (by omega) ?_
      refine fAt_vl (x' := (dDr (nt M kn 23 0 3))) rfl ?_
      refine st_lstore_n (ls' := [some (vr 22 0), some (vi (n : Int)), some (vi (t : Int)), some (vl (dDr (nt M kn 23 0 3))), none]) dX7_drift_44 (by decide) rfl rfl ?_
      refine st_aload_n dX7_drift_45 rfl ?_
      refine st_getr (i' := 0) dX7_drift_46 fl_X7_7 rfl rfl rfl (fun _ => by decide) ?_
      refine st_iconst dX7_drift_49 (by decide) ?_
      refine st_lload_n dX7_drift_50 rfl ?_
      refine st_l2i dX7_drift_51 (by omega) ?_
      refine st_iast (j := 3) dX7_drift_52 rfl rfl rfl rfl (by decide) ?_
      refine st_aload_n dX7_drift_53 rfl ?_
      refine st_getr (i' := 0) dX7_drift_54 fl_X7_7 rfl rfl rfl (fun _ => by decide) ?_
      refine st_iconst dX7_drift_57 (by decide) ?_
      refine st_aload_n dX7_drift_58 rfl ?_
      refine st_getr (i' := 0) dX7_drift_59 fl_X7_7 rfl rfl rfl (fun _ => by decide) ?_
      refine st_iconst dX7_drift_62 (by decide) ?_
      refine st_iald (j := 3) dX7_drift_63 rfl rfl rfl rfl (by decide) ?_
      refine fAt_v (x' := (dDr (nt M kn 23 0 3))) fup_eq ?_
      refine st_ldc (v := 65536) (65536) dX7_drift_64 (ftb_in 923 (by decide +kernel) rfl) (by decide +kernel) ?_
      refine st_idiv dX7_drift_66 (by omega) (by omega) ?_
      refine st_aload_n dX7_drift_67 rfl ?_
      refine st_callVi [] [vi ((dDr (nt M kn 23 0 3)) / 65536), vi 4, vr 23 0] dX7_drift_68 vl_X7_61 rfl rfl rfl rfl (Nat.le_of_ble_eq_true rfl) (by decide) (m_lines (w := w) ((fup_ne (by omega)).trans hnt.1) hn.2.2.2.1) (fun zl Ml ql => ?_)
      obtain ⟨rfl, q⟩ := ql
      subst Ml
      refine st_irem dX7_drift_71 (by omega) (by omega) ?_
      refine st_iadd dX7_drift_72 (by omega) ?_
      refine st_aload_n dX7_drift_73 rfl ?_
      refine st_getr (i' := 0) dX7_drift_74 fl_X7_7 rfl rfl rfl (fun _ => by decide) ?_
      refine st_iconst dX7_drift_77 (by decide) ?_
      refine st_iald (j := 3) dX7_drift_78 rfl rfl rfl rfl (by decide) ?_
      refine fAt_v (x' := (dDr (nt M kn 23 0 3))) fup_eq ?_
      refine st_sipush dX7_drift_79 (by decide) ?_
      refine st_idiv dX7_drift_82 (by omega) (by omega) ?_
      refine st_aload_n dX7_drift_83 rfl ?_
      refine st_getr (i' := 0) dX7_drift_84 fl_X7_7 rfl rfl rfl (fun _ => by decide) ?_
      refine st_iconst dX7_drift_87 (by decide) ?_
      refine st_iald (j := 2) dX7_drift_88 rfl rfl rfl rfl (by decide) ?_
      refine fAt_v (x' := p) ((fup_ne (by omega)).trans hnt.2.1) ?_
      refine st_irem dX7_drift_89 (by omega) (by omega) ?_
      refine st_iast (j := (4 + ((dDr (nt M kn 23 0 3)) / 65536 % ((2 * w - 1 : Nat) : Int)).toNat)) dX7_drift_90 rfl rfl rfl (by omega) (by omega) ?_
      refine st_iinc (ls' := [some (vr 22 0), some (vi (n : Int)), some (vi ((t : Int) + 1)), some (vl (dDr (nt M kn 23 0 3))), none]) dX7_drift_91 rfl (by omega) (by decide) rfl rfl ?_
      refine st_goto 16 dX7_drift_94 (by decide) ?_
      refine fAt_del 3 rfl ?_
      exact ih (t + 1) (md1 M kn w p) (dkn kn) (by omega) (md1_n hn) (md1_k hk8) (dkn_8 hk8)
set_option maxHeartbeats 4000000 in
set_option maxRecDepth 100000 in
theorem m_drift {g : fG} {M : fM} {w : Nat} {p : Int} (hn : nOk M w p) {kn : Nat} (hk : M 22 0 9 = (kn : Int)) (hk8 : kn ≤ 8) {x : Int} :
    fCi g Y_X7_drift [vr 22 0, vi x] M (fun z M' => (¬ (1 ≤ x ∧ x ≤ 40) ∧ z = -1 ∧ M' = M) ∨ ((1 ≤ x ∧ x ≤ 40) ∧ z = dt w (eN (mdN x.toNat M kn w p) w p) % p ∧ mS (mdN x.toNat M kn w p) M')) := by
  have hw1 := hn.2.2.2.1
  have hp2 := hn.2.2.1.1
  refine fCi_of _ [some (vr 22 0), some (vi x), none, none, none] (by decide) (Nat.le_of_ble_eq_true rfl) rfl (fun h => h) ?_
  refine st_iload_n dX7_drift_0 rfl ?_
  refine st_i2l dX7_drift_1 ?_
  refine st_lconst1 dX7_drift_2 ?_
  refine st_ldc2 (v := 40) (40) dX7_drift_3 (ftb_in 919 (by decide +kernel) rfl) (by decide +kernel) ?_
  refine st_callSi [vl x, vl 1, vl 40] [] dX7_drift_6 sl_X7_57 rfl rfl (Nat.le_of_ble_eq_true rfl) (by decide) (m_in) (fun za Ma qa => ?_)
  obtain ⟨qa, rfl⟩ := qa
  rcases qa with ⟨rfl, aa⟩ | ⟨rfl, aa⟩
  · skip
    refine st_if_ne 14 dX7_drift_9 (by decide) (fun h9 => ?_) (fun h9 => ?_)
    · skip
      refine st_iconst dX7_drift_14 (by decide) ?_
      refine st_istore_n (ls' := [some (vr 22 0), some (vi x), some (vi 0), none, none]) dX7_drift_15 (by decide) rfl rfl ?_
      refine fAt_ls (ls' := [some (vr 22 0), some (vi ((x.toNat : Nat) : Int)), some (vi ((0 : Nat) : Int)), none, none]) (by rw [show ((x.toNat : Nat) : Int) = x by omega]; rfl) ?_
      refine fAt_q (fun r M' h => ?_) (m_drift_l (by omega) x.toNat 0 Ma kn (by omega) hn hk hk8)
      obtain ⟨z, e, h1, h2⟩ := h
      exact ⟨z, e, Or.inr ⟨by omega, h1, h2⟩⟩
    · skip
      exact absurd h9 (by omega)
  · skip
    refine st_if_ne 14 dX7_drift_9 (by decide) (fun h9 => ?_) (fun h9 => ?_)
    · skip
      exact absurd h9 (by omega)
    · skip
      refine st_iconst dX7_drift_12 (by decide) ?_
      refine st_ireturn dX7_drift_13 rfl ⟨_, rfl, Or.inl ⟨by omega, rfl, rfl⟩⟩
