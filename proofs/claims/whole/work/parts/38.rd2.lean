theorem c_letterHere2 {g : fG} {M : fM} {tp : Nat → Int} {ln : Nat} (ht : M 7 0 = tp) (hl : M 6 0 0 = (ln : Int)) (hn7 : ln ≤ 70) {q : Nat} {v : Int} : fCi g Y_X2_letterHere [vr 6 0] (rS M q v) (fun z M' => z = lr tp ln q (-1) ∧ M' = rS M q v) := ht ▸ c_letterHere hl hn7
theorem c_readNumber2 {g : fG} {M : fM} {tp : Nat → Int} {ln : Nat} (ht : M 7 0 = tp) (hl : M 6 0 0 = (ln : Int)) (hn7 : ln ≤ 70) {q : Nat} {v : Int} {p : Int} (hpr : M 6 0 4 = p) (hq : q ≤ ln) :
    fCi g Y_X2_readNumber [vr 6 0] (rS M q v) (fun z M' => (∃ x q' v', nF tp ln p q = some x ∧ z = -20 - (x : Int) ∧ M' = rS M q' v') ∨ (nF tp ln p q = none ∧ z = 0 ∧ M' = rS M (nx tp ln q) (nV tp ln (sk tp ln q)))) := ht ▸ c_readNumber hl hn7 hpr hq
def rwW (K : Nat) (N : fM) (k c : Nat) (f : Nat → Int) : fM := fun kk a b => if kk = K ∧ a = 19 ∧ k ≤ b ∧ b < k + c then f (b - k) else N kk a b
theorem rwW_s (K : Nat) (N : fM) (k c : Nat) (f h : Nat → Int) (e : ∀ i, f (i + 1) = h i) : rwW K (fup N K 19 k (f 0)) (k + 1) c h = rwW K N k (c + 1) f := by
  funext kk a b
  simp only [rwW, fup]
  by_cases e1 : kk = K ∧ a = 19 ∧ k + 1 ≤ b ∧ b < k + 1 + c
  · rw [if_pos e1, if_pos (by omega), ← e, show b - (k + 1) + 1 = b - k by omega]
  · rw [if_neg e1]
    by_cases e2 : kk = K ∧ a = 19 ∧ b = k
    · rw [if_pos e2, if_pos (by omega), e2.2.2, Nat.sub_self]
    · rw [if_neg e2, if_neg (by omega)]
theorem rwW_1 (K : Nat) (N : fM) (k : Nat) (f : Nat → Int) : fup N K 19 k (f 0) = rwW K N k 1 f := by
  funext kk a b
  simp only [rwW, fup]
  by_cases e2 : kk = K ∧ a = 19 ∧ b = k
  · rw [if_pos e2, if_pos (by omega), e2.2.2, Nat.sub_self]
  · rw [if_neg e2, if_neg (by omega)]
/-- what reading leaves as it was -/
def rdS (M M' : fM) : Prop := ∀ k a b, ¬ (k = 6 ∧ (b = 3 ∨ b = 4 ∨ b = 5)) → ¬ ((k = 2 ∨ k = 3 ∨ k = 4) ∧ a = 19) → M' k a b = M k a b
theorem rdS_t {M N L : fM} (h1 : rdS M N) (h2 : rdS N L) : rdS M L := fun k a b q1 q2 => (h2 k a b q1 q2).trans (h1 k a b q1 q2)
theorem rdS_r (M : fM) (q : Nat) (v : Int) : rdS M (rS M q v) := fun k a b q1 _ => rS_ne (by omega)
theorem rdS_u {M : fM} {k a b : Nat} {v : Int} (h : (k = 2 ∨ k = 3 ∨ k = 4) ∧ a = 19) : rdS M (fup M k a b v) := fun k' a' b' _ q2 => fup_ne (by rintro ⟨rfl, rfl, rfl⟩; exact q2 h)
theorem rdS_w {K : Nat} {N : fM} {k c : Nat} {f : Nat → Int} (h : K = 2 ∨ K = 3 ∨ K = 4) : rdS N (rwW K N k c f) := fun k' a' b' _ q2 => by
  unfold rwW
  rw [if_neg (by omega)]
set_option maxHeartbeats 4000000 in
set_option maxRecDepth 100000 in
theorem c_kindOf {g : fG} {M : fM} {x : Int} :
    fCi g Y_X2_kindOf [vi x] M (fun z M' => z = kb x ∧ M' = M) := by
  refine fCi_of _ [some (vi x)] (by decide) (Nat.le_of_ble_eq_true rfl) rfl (fun h => h) ?_
  refine st_iload_n dX2_kindOf_0 rfl ?_
  rcases (show x = 98 ∨ x = 101 ∨ x = 110 ∨ x = 114 ∨ x = 115 ∨ (x ≠ 98 ∧ x ≠ 101 ∧ x ≠ 110 ∧ x ≠ 114 ∧ x ≠ 115) by omega) with rfl | rfl | rfl | rfl | rfl | hout
  · skip
    refine st_lookup (off := 53) 54 dX2_kindOf_1 (by decide) rfl (by decide) ?_
    refine st_iconst dX2_kindOf_54 (by decide) ?_
    refine st_ireturn dX2_kindOf_55 rfl ⟨_, rfl, ⟨rfl, rfl⟩⟩
  · skip
    refine st_lookup (off := 55) 56 dX2_kindOf_1 (by decide) rfl (by decide) ?_
    refine st_iconst dX2_kindOf_56 (by decide) ?_
    refine st_ireturn dX2_kindOf_57 rfl ⟨_, rfl, ⟨rfl, rfl⟩⟩
  · skip
    refine st_lookup (off := 59) 60 dX2_kindOf_1 (by decide) rfl (by decide) ?_
    refine st_iconst dX2_kindOf_60 (by decide) ?_
    refine st_ireturn dX2_kindOf_61 rfl ⟨_, rfl, ⟨rfl, rfl⟩⟩
  · skip
    refine st_lookup (off := 57) 58 dX2_kindOf_1 (by decide) rfl (by decide) ?_
    refine st_iconst dX2_kindOf_58 (by decide) ?_
    refine st_ireturn dX2_kindOf_59 rfl ⟨_, rfl, ⟨rfl, rfl⟩⟩
  · skip
    refine st_lookup (off := 51) 52 dX2_kindOf_1 (by decide) rfl (by decide) ?_
    refine st_iconst dX2_kindOf_52 (by decide) ?_
    refine st_ireturn dX2_kindOf_53 rfl ⟨_, rfl, ⟨rfl, rfl⟩⟩
  · skip
    refine st_lookup (off := 61) 62 dX2_kindOf_1 (by decide) (by
      simp only [Op.lookupswitch.offset]
      repeat' split
      all_goals first | rfl | omega) (by decide) ?_
    refine st_iconst dX2_kindOf_62 (by decide) ?_
    refine st_ireturn dX2_kindOf_63 rfl ⟨_, rfl, ⟨?_, rfl⟩⟩
    unfold kb
    rw [if_neg (by omega), if_neg (by omega), if_neg (by omega), if_neg (by omega), if_neg (by omega)]
def clW (N : fM) (c : Nat) : fM := fun k a b => if k = 4 ∧ a = 19 ∧ b < c then 0 else N k a b
theorem clW_s (N : fM) (c : Nat) : fup (clW N c) 4 19 c 0 = clW N (c + 1) := by
  funext k a b
  simp only [clW, fup]
  grind (splits := 30)
theorem clW_0 (N : fM) : clW N 0 = N := by
  funext k a b
  unfold clW
  rw [if_neg (by omega)]
theorem clW_r (N : fM) (q : Nat) (v : Int) (c : Nat) : clW (rS N q v) c = rS (clW N c) q v := by
  funext k a b
  simp only [clW, rS, fup]
  grind (splits := 30)
set_option maxHeartbeats 4000000 in
set_option maxRecDepth 100000 in
theorem clear_l {g : fG} {M : fM}  :
    ∀ (n c : Nat), c + n = 6 → fAt g Y_X2_clearSide 2 [some (vr 6 0), some (vi (c : Int))] [] (clW M c) (fN (fun M' => M' = clW M 6)) := by
  intro n
  induction n with
  | zero =>
    intro c hm
    refine st_iload_n dX2_clearSide_2 rfl ?_
    refine st_bipush dX2_clearSide_3 (by decide) ?_
    refine st_icmp_ge 24 dX2_clearSide_5 (by decide) (fun h5 => ?_) (fun h5 => ?_)
    · skip
      refine st_return dX2_clearSide_24 rfl ⟨rfl, (by rw [show c = 6 by omega])⟩
    · skip
      exact absurd h5 (by omega)
  | succ n ih =>
    intro c hm
    refine st_iload_n dX2_clearSide_2 rfl ?_
    refine st_bipush dX2_clearSide_3 (by decide) ?_
    refine st_icmp_ge 24 dX2_clearSide_5 (by decide) (fun h5 => ?_) (fun h5 => ?_)
    · skip
      exact absurd h5 (by omega)
    · skip
      refine st_aload_n dX2_clearSide_8 rfl ?_
      refine st_getr (i' := 19) dX2_clearSide_9 fl_X2_18 rfl rfl rfl (fun _ => by decide) ?_
      refine st_getr (i' := 19) dX2_clearSide_12 fl_X2_70 rfl rfl rfl (fun _ => by decide) ?_
      refine st_iload_n dX2_clearSide_15 rfl ?_
      refine st_iconst dX2_clearSide_16 (by decide) ?_
      refine st_iast (j := c) dX2_clearSide_17 rfl rfl rfl rfl (by omega) ?_
      refine fAt_m (clW_s M c) ?_
      refine st_iinc (ls' := [some (vr 6 0), some (vi ((c : Int) + 1))]) dX2_clearSide_18 rfl (by omega) (by decide) rfl rfl ?_
      refine st_goto 2 dX2_clearSide_21 (by decide) ?_
      exact ih (c + 1) (by omega)
set_option maxHeartbeats 4000000 in
set_option maxRecDepth 100000 in
theorem c_clearSide {g : fG} {M : fM}  :
    fCv g Y_X2_clearSide [vr 6 0] M (fun M' => M' = clW M 6) := by
  refine fCv_of _ [some (vr 6 0), none] (by decide) (Nat.le_of_ble_eq_true rfl) rfl (fun h => h) ?_
  refine st_iconst dX2_clearSide_0 (by decide) ?_
  refine st_istore_n (ls' := [some (vr 6 0), some (vi 0)]) dX2_clearSide_1 (by decide) rfl rfl ?_
  refine fAt_m (clW_0 M).symm ?_
  exact clear_l 6 0 (by omega)
set_option maxHeartbeats 4000000 in
set_option maxRecDepth 100000 in
theorem readRow_l {g : fG}  {tp : Nat → Int} {ln : Nat} {p : Int} (hn7 : ln ≤ 70) :
    ∀ (n : Nat) (k : Nat) (N : fM) (q : Nat) (v : Int), k + (n + 1) = 11 → q ≤ ln → N 7 0 = tp → N 6 0 0 = (ln : Int) → N 6 0 4 = p → fAt g Y_X2_readRow 4 [some (vr 6 0), some (vi (k : Int)), some (vi 1), none] [] (rS N q v) (fI (fun z M' => (∃ x, (rwp tp ln p (n + 1) q).1 = some x ∧ z = -20 - (x : Int) ∧ rdS N M') ∨ ((rwp tp ln p (n + 1) q).1 = none ∧ (((k + (rwp tp ln p (n + 1) q).2.1) % 2 = 0 ∧ z = -20 - ((rwp tp ln p (n + 1) q).2.2 : Int) ∧ rdS N M') ∨ ((k + (rwp tp ln p (n + 1) q).2.1) % 2 = 1 ∧ z = 0 ∧ ∃ v', M' = rS (fup (rwW 3 N k (rwp tp ln p (n + 1) q).2.1 (vlp tp ln q)) 2 19 0 (((k + (rwp tp ln p (n + 1) q).2.1 + 1) / 2 : Nat) : Int)) (rwp tp ln p (n + 1) q).2.2 v'))))) := by
  intro n
  induction n with
  | zero =>
    intro k N q v hm hq ht hl hpr
    refine st_iload_n dX2_readRow_4 rfl ?_
    refine st_if_eq 83 dX2_readRow_5 (by decide) (fun h5 => ?_) (fun h5 => ?_)
    · skip
      exact absurd h5 (by decide)
    · skip
      refine st_iload_n dX2_readRow_8 rfl ?_
      refine st_bipush dX2_readRow_9 (by decide) ?_
      refine st_icmp_ge 83 dX2_readRow_11 (by decide) (fun h11 => ?_) (fun h11 => ?_)
      · skip
        exact absurd h11 (by omega)
      · skip
        refine st_aload_n dX2_readRow_14 rfl ?_
        refine st_callVi [] [] dX2_readRow_15 vl_X2_61 rfl rfl rfl rfl (Nat.le_of_ble_eq_true rfl) (by decide) (c_readNumber2 (q := q) (v := v) ht hl hn7 hpr hq) (fun z Mr qr => ?_)
        rcases qr with ⟨x, q', v', hF, rfl, h0⟩ | ⟨hF, rfl, h0⟩
        · skip
          subst Mr
          refine st_istore_n (ls' := [some (vr 6 0), some (vi (k : Int)), some (vi 1), some (vi (-20 - (x : Int)))]) dX2_readRow_18 (by decide) rfl rfl ?_
          refine st_iload_n dX2_readRow_19 rfl ?_
          refine st_if_eq 25 dX2_readRow_20 (by decide) (fun h20 => ?_) (fun h20 => ?_)
          · skip
            exact absurd h20 (by omega)
          · skip
            refine st_iload_n dX2_readRow_23 rfl ?_
            refine st_ireturn dX2_readRow_24 rfl ⟨_, rfl, Or.inl ⟨x, by rw [rwp_f hF], rfl, rdS_r N q' v'⟩⟩
        · skip
          subst Mr
          have hnb := nx_b hF
          have hvb := nV_b (nF_n hF).1
          refine st_istore_n (ls' := [some (vr 6 0), some (vi (k : Int)), some (vi 1), some (vi 0)]) dX2_readRow_18 (by decide) rfl rfl ?_
          refine st_iload_n dX2_readRow_19 rfl ?_
          refine st_if_eq 25 dX2_readRow_20 (by decide) (fun h20 => ?_) (fun h20 => ?_)
          · skip
            refine st_aload_n dX2_readRow_25 rfl ?_
            refine st_getr (i' := 19) dX2_readRow_26 fl_X2_18 rfl rfl rfl (fun _ => by decide) ?_
            refine st_getr (i' := 19) dX2_readRow_29 fl_X2_64 rfl rfl rfl (fun _ => by decide) ?_
            refine st_iload_n dX2_readRow_32 rfl ?_
            refine st_aload_n dX2_readRow_33 rfl ?_
            refine st_get dX2_readRow_34 fl_X2_32 rfl rfl rfl ?_
            refine fAt_v (x' := (nV tp ln (sk tp ln q))) (rS_rv _ _ _) ?_
            refine st_iast (j := k) dX2_readRow_37 rfl rfl rfl rfl (by omega) ?_
            refine fAt_m (rS_w N _ _ 3 19 k _ (by decide)) ?_
            have ht1 : fup N 3 19 k (nV tp ln (sk tp ln q)) 7 0 = tp := (funext fun b => fup_ne (by omega)).trans ht
            refine st_iinc (ls' := [some (vr 6 0), some (vi ((k : Int) + 1)), some (vi 1), some (vi 0)]) dX2_readRow_38 rfl (by omega) (by decide) rfl rfl ?_
            refine st_aload_n dX2_readRow_41 rfl ?_
            refine st_callVi [] [] dX2_readRow_42 vl_X2_38 rfl rfl rfl rfl (Nat.le_of_ble_eq_true rfl) (by decide) (c_letterHere2 (q := (nx tp ln q)) (v := (nV tp ln (sk tp ln q))) ht1 hl hn7) (fun zl Ml ql => ?_)
            obtain ⟨rfl, h0l⟩ := ql
            subst Ml
            refine st_bipush dX2_readRow_45 (by decide) ?_
            refine st_icmp_ne 60 dX2_readRow_47 (by decide) (fun h47 => ?_) (fun h47 => ?_)
            · skip
              have hcc : ¬ ((0 : Nat) ≠ 0 ∧ isC tp ln (nx tp ln q) 44) := fun hc => h47 ((lr_eq (by decide)).mpr hc.2)
              refine st_iconst dX2_readRow_60 (by decide) ?_
              refine st_istore_n (ls' := [some (vr 6 0), some (vi ((k : Int) + 1)), some (vi 0), some (vi 0)]) dX2_readRow_61 (by decide) rfl rfl ?_
              refine st_aload_n dX2_readRow_62 rfl ?_
              refine st_dup dX2_readRow_63 rfl ?_
              refine st_get dX2_readRow_64 fl_X2_26 rfl rfl rfl ?_
              refine fAt_v (x' := (((nx tp ln q) : Nat) : Int)) (rS_rp _ _ _) ?_
              refine st_iload_n dX2_readRow_67 rfl ?_
              refine st_if_eq 75 dX2_readRow_68 (by decide) (fun h68 => ?_) (fun h68 => ?_)
              · skip
                refine st_iconst dX2_readRow_75 (by decide) ?_
                refine st_iadd dX2_readRow_76 (by omega) ?_
                refine fAt_v (x' := (((nx tp ln q) : Nat) : Int)) (by omega) ?_
                refine st_put dX2_readRow_77 fl_X2_26 fp_X2_3.1 (Or.inl fp_X2_3.2) rfl rfl rfl ?_
                refine fAt_m (rS_p (fup N 3 19 k (nV tp ln (sk tp ln q))) _ _ _) ?_
                refine st_goto 4 dX2_readRow_80 (by decide) ?_
                refine st_iload_n dX2_readRow_4 rfl ?_
                refine st_if_eq 83 dX2_readRow_5 (by decide) (fun h5 => ?_) (fun h5 => ?_)
                · skip
                  refine st_iload_n dX2_readRow_83 rfl ?_
                  refine st_iconst dX2_readRow_84 (by decide) ?_
                  refine st_irem dX2_readRow_85 (by omega) (by omega) ?_
                  refine st_if_ne 94 dX2_readRow_86 (by decide) (fun h86 => ?_) (fun h86 => ?_)
                  · skip
                    refine st_aload_n dX2_readRow_94 rfl ?_
                    refine st_getr (i' := 19) dX2_readRow_95 fl_X2_18 rfl rfl rfl (fun _ => by decide) ?_
                    refine st_iload_n dX2_readRow_98 rfl ?_
                    refine st_iconst dX2_readRow_99 (by decide) ?_
                    refine st_iadd dX2_readRow_100 (by omega) ?_
                    refine st_iconst dX2_readRow_101 (by decide) ?_
                    refine st_idiv dX2_readRow_102 (by omega) (by omega) ?_
                    refine fAt_v (x' := (((k + 1 + 1) / 2 : Nat) : Int)) (by omega) ?_
                    refine st_put dX2_readRow_103 fl_X2_67 fp_X3_0.1 (Or.inl fp_X3_0.2) rfl rfl rfl ?_
                    refine fAt_m (rS_w (fup N 3 19 k (nV tp ln (sk tp ln q))) _ _ 2 19 0 _ (by decide)) ?_
                    refine st_iconst dX2_readRow_106 (by decide) ?_
                    refine st_ireturn dX2_readRow_107 rfl ⟨_, rfl, ?_⟩
                    have hr := rwp_e (f := 0) hF hcc
                    refine Or.inr ⟨by rw [hr], Or.inr ⟨by rw [hr]; show (k + 1) % 2 = 1; omega, rfl, nV tp ln (sk tp ln q), ?_⟩⟩
                    rw [hr, ← rwW_1 3 N k (vlp tp ln q)]
                    rfl
                  · skip
                    refine st_aload_n dX2_readRow_89 rfl ?_
                    refine st_callVi [] [] dX2_readRow_90 vl_X2_49 rfl rfl rfl rfl (Nat.le_of_ble_eq_true rfl) (by decide) (c_faultHere (M := (fup N 3 19 k (nV tp ln (sk tp ln q)))) (q := (nx tp ln q)) (v := (nV tp ln (sk tp ln q))) (by omega)) (fun zf Mf qf => ?_)
                    obtain ⟨rfl, h0f⟩ := qf
                    subst Mf
                    refine st_ireturn dX2_readRow_93 rfl ⟨_, rfl, ?_⟩
                    have hr := rwp_e (f := 0) hF hcc
                    refine Or.inr ⟨by rw [hr], Or.inl ⟨by rw [hr]; show (k + 1) % 2 = 0; omega, by rw [hr], rdS_t (rdS_u (by omega)) (rdS_r _ _ _)⟩⟩
                · skip
                  exact absurd rfl h5
              · skip
                exact absurd rfl h68
            · skip
              refine st_iload_n dX2_readRow_50 rfl ?_
              refine st_bipush dX2_readRow_51 (by decide) ?_
              refine st_icmp_ge 60 dX2_readRow_53 (by decide) (fun h53 => ?_) (fun h53 => ?_)
              · skip
                have hcc : ¬ ((0 : Nat) ≠ 0 ∧ isC tp ln (nx tp ln q) 44) := fun hc => hc.1 (by omega)
                refine st_iconst dX2_readRow_60 (by decide) ?_
                refine st_istore_n (ls' := [some (vr 6 0), some (vi ((k : Int) + 1)), some (vi 0), some (vi 0)]) dX2_readRow_61 (by decide) rfl rfl ?_
                refine st_aload_n dX2_readRow_62 rfl ?_
                refine st_dup dX2_readRow_63 rfl ?_
                refine st_get dX2_readRow_64 fl_X2_26 rfl rfl rfl ?_
                refine fAt_v (x' := (((nx tp ln q) : Nat) : Int)) (rS_rp _ _ _) ?_
                refine st_iload_n dX2_readRow_67 rfl ?_
                refine st_if_eq 75 dX2_readRow_68 (by decide) (fun h68 => ?_) (fun h68 => ?_)
                · skip
                  refine st_iconst dX2_readRow_75 (by decide) ?_
                  refine st_iadd dX2_readRow_76 (by omega) ?_
                  refine fAt_v (x' := (((nx tp ln q) : Nat) : Int)) (by omega) ?_
                  refine st_put dX2_readRow_77 fl_X2_26 fp_X2_3.1 (Or.inl fp_X2_3.2) rfl rfl rfl ?_
                  refine fAt_m (rS_p (fup N 3 19 k (nV tp ln (sk tp ln q))) _ _ _) ?_
                  refine st_goto 4 dX2_readRow_80 (by decide) ?_
                  refine st_iload_n dX2_readRow_4 rfl ?_
                  refine st_if_eq 83 dX2_readRow_5 (by decide) (fun h5 => ?_) (fun h5 => ?_)
                  · skip
                    refine st_iload_n dX2_readRow_83 rfl ?_
                    refine st_iconst dX2_readRow_84 (by decide) ?_
                    refine st_irem dX2_readRow_85 (by omega) (by omega) ?_
                    refine st_if_ne 94 dX2_readRow_86 (by decide) (fun h86 => ?_) (fun h86 => ?_)
                    · skip
                      refine st_aload_n dX2_readRow_94 rfl ?_
                      refine st_getr (i' := 19) dX2_readRow_95 fl_X2_18 rfl rfl rfl (fun _ => by decide) ?_
                      refine st_iload_n dX2_readRow_98 rfl ?_
                      refine st_iconst dX2_readRow_99 (by decide) ?_
                      refine st_iadd dX2_readRow_100 (by omega) ?_
                      refine st_iconst dX2_readRow_101 (by decide) ?_
                      refine st_idiv dX2_readRow_102 (by omega) (by omega) ?_
                      refine fAt_v (x' := (((k + 1 + 1) / 2 : Nat) : Int)) (by omega) ?_
                      refine st_put dX2_readRow_103 fl_X2_67 fp_X3_0.1 (Or.inl fp_X3_0.2) rfl rfl rfl ?_
                      refine fAt_m (rS_w (fup N 3 19 k (nV tp ln (sk tp ln q))) _ _ 2 19 0 _ (by decide)) ?_
                      refine st_iconst dX2_readRow_106 (by decide) ?_
                      refine st_ireturn dX2_readRow_107 rfl ⟨_, rfl, ?_⟩
                      have hr := rwp_e (f := 0) hF hcc
                      refine Or.inr ⟨by rw [hr], Or.inr ⟨by rw [hr]; show (k + 1) % 2 = 1; omega, rfl, nV tp ln (sk tp ln q), ?_⟩⟩
                      rw [hr, ← rwW_1 3 N k (vlp tp ln q)]
                      rfl
                    · skip
                      refine st_aload_n dX2_readRow_89 rfl ?_
                      refine st_callVi [] [] dX2_readRow_90 vl_X2_49 rfl rfl rfl rfl (Nat.le_of_ble_eq_true rfl) (by decide) (c_faultHere (M := (fup N 3 19 k (nV tp ln (sk tp ln q)))) (q := (nx tp ln q)) (v := (nV tp ln (sk tp ln q))) (by omega)) (fun zf Mf qf => ?_)
                      obtain ⟨rfl, h0f⟩ := qf
                      subst Mf
                      refine st_ireturn dX2_readRow_93 rfl ⟨_, rfl, ?_⟩
                      have hr := rwp_e (f := 0) hF hcc
                      refine Or.inr ⟨by rw [hr], Or.inl ⟨by rw [hr]; show (k + 1) % 2 = 0; omega, by rw [hr], rdS_t (rdS_u (by omega)) (rdS_r _ _ _)⟩⟩
                  · skip
                    exact absurd rfl h5
                · skip
                  exact absurd rfl h68
              · skip
                have hcc : isC tp ln (nx tp ln q) 44 := (lr_eq (by decide)).mp h47
                refine st_iconst dX2_readRow_56 (by decide) ?_
                refine st_goto 61 dX2_readRow_57 (by decide) ?_
                refine st_istore_n (ls' := [some (vr 6 0), some (vi ((k : Int) + 1)), some (vi 1), some (vi 0)]) dX2_readRow_61 (by decide) rfl rfl ?_
                refine st_aload_n dX2_readRow_62 rfl ?_
                refine st_dup dX2_readRow_63 rfl ?_
                refine st_get dX2_readRow_64 fl_X2_26 rfl rfl rfl ?_
                refine fAt_v (x' := (((nx tp ln q) : Nat) : Int)) (rS_rp _ _ _) ?_
                refine st_iload_n dX2_readRow_67 rfl ?_
                refine st_if_eq 75 dX2_readRow_68 (by decide) (fun h68 => ?_) (fun h68 => ?_)
                · skip
                  exact absurd h68 (by decide)
                · skip
                  refine st_iconst dX2_readRow_71 (by decide) ?_
                  refine st_goto 76 dX2_readRow_72 (by decide) ?_
                  refine st_iadd dX2_readRow_76 (by omega) ?_
                  refine fAt_v (x' := ((((nx tp ln q) + 1) : Nat) : Int)) (by omega) ?_
                  refine st_put dX2_readRow_77 fl_X2_26 fp_X2_3.1 (Or.inl fp_X2_3.2) rfl rfl rfl ?_
                  refine fAt_m (rS_p (fup N 3 19 k (nV tp ln (sk tp ln q))) _ _ _) ?_
                  refine st_goto 4 dX2_readRow_80 (by decide) ?_
                  exact absurd (show (k : Int) + 1 < 11 by omega) (by omega)
          · skip
            exact absurd rfl h20
  | succ n ih =>
    intro k N q v hm hq ht hl hpr
    refine st_iload_n dX2_readRow_4 rfl ?_
    refine st_if_eq 83 dX2_readRow_5 (by decide) (fun h5 => ?_) (fun h5 => ?_)
    · skip
      exact absurd h5 (by decide)
    · skip
      refine st_iload_n dX2_readRow_8 rfl ?_
      refine st_bipush dX2_readRow_9 (by decide) ?_
      refine st_icmp_ge 83 dX2_readRow_11 (by decide) (fun h11 => ?_) (fun h11 => ?_)
      · skip
        exact absurd h11 (by omega)
      · skip
        refine st_aload_n dX2_readRow_14 rfl ?_
        refine st_callVi [] [] dX2_readRow_15 vl_X2_61 rfl rfl rfl rfl (Nat.le_of_ble_eq_true rfl) (by decide) (c_readNumber2 (q := q) (v := v) ht hl hn7 hpr hq) (fun z Mr qr => ?_)
        rcases qr with ⟨x, q', v', hF, rfl, h0⟩ | ⟨hF, rfl, h0⟩
        · skip
          subst Mr
          refine st_istore_n (ls' := [some (vr 6 0), some (vi (k : Int)), some (vi 1), some (vi (-20 - (x : Int)))]) dX2_readRow_18 (by decide) rfl rfl ?_
          refine st_iload_n dX2_readRow_19 rfl ?_
          refine st_if_eq 25 dX2_readRow_20 (by decide) (fun h20 => ?_) (fun h20 => ?_)
          · skip
            exact absurd h20 (by omega)
          · skip
            refine st_iload_n dX2_readRow_23 rfl ?_
            refine st_ireturn dX2_readRow_24 rfl ⟨_, rfl, Or.inl ⟨x, by rw [rwp_f hF], rfl, rdS_r N q' v'⟩⟩
        · skip
          subst Mr
          have hnb := nx_b hF
          have hvb := nV_b (nF_n hF).1
          refine st_istore_n (ls' := [some (vr 6 0), some (vi (k : Int)), some (vi 1), some (vi 0)]) dX2_readRow_18 (by decide) rfl rfl ?_
          refine st_iload_n dX2_readRow_19 rfl ?_
          refine st_if_eq 25 dX2_readRow_20 (by decide) (fun h20 => ?_) (fun h20 => ?_)
          · skip
            refine st_aload_n dX2_readRow_25 rfl ?_
            refine st_getr (i' := 19) dX2_readRow_26 fl_X2_18 rfl rfl rfl (fun _ => by decide) ?_
            refine st_getr (i' := 19) dX2_readRow_29 fl_X2_64 rfl rfl rfl (fun _ => by decide) ?_
            refine st_iload_n dX2_readRow_32 rfl ?_
            refine st_aload_n dX2_readRow_33 rfl ?_
            refine st_get dX2_readRow_34 fl_X2_32 rfl rfl rfl ?_
            refine fAt_v (x' := (nV tp ln (sk tp ln q))) (rS_rv _ _ _) ?_
            refine st_iast (j := k) dX2_readRow_37 rfl rfl rfl rfl (by omega) ?_
            refine fAt_m (rS_w N _ _ 3 19 k _ (by decide)) ?_
            have ht1 : fup N 3 19 k (nV tp ln (sk tp ln q)) 7 0 = tp := (funext fun b => fup_ne (by omega)).trans ht
            refine st_iinc (ls' := [some (vr 6 0), some (vi ((k : Int) + 1)), some (vi 1), some (vi 0)]) dX2_readRow_38 rfl (by omega) (by decide) rfl rfl ?_
            refine st_aload_n dX2_readRow_41 rfl ?_
            refine st_callVi [] [] dX2_readRow_42 vl_X2_38 rfl rfl rfl rfl (Nat.le_of_ble_eq_true rfl) (by decide) (c_letterHere2 (q := (nx tp ln q)) (v := (nV tp ln (sk tp ln q))) ht1 hl hn7) (fun zl Ml ql => ?_)
            obtain ⟨rfl, h0l⟩ := ql
            subst Ml
            refine st_bipush dX2_readRow_45 (by decide) ?_
            refine st_icmp_ne 60 dX2_readRow_47 (by decide) (fun h47 => ?_) (fun h47 => ?_)
            · skip
              have hcc : ¬ (n + 1 ≠ 0 ∧ isC tp ln (nx tp ln q) 44) := fun hc => h47 ((lr_eq (by decide)).mpr hc.2)
              refine st_iconst dX2_readRow_60 (by decide) ?_
              refine st_istore_n (ls' := [some (vr 6 0), some (vi ((k : Int) + 1)), some (vi 0), some (vi 0)]) dX2_readRow_61 (by decide) rfl rfl ?_
              refine st_aload_n dX2_readRow_62 rfl ?_
              refine st_dup dX2_readRow_63 rfl ?_
              refine st_get dX2_readRow_64 fl_X2_26 rfl rfl rfl ?_
              refine fAt_v (x' := (((nx tp ln q) : Nat) : Int)) (rS_rp _ _ _) ?_
              refine st_iload_n dX2_readRow_67 rfl ?_
              refine st_if_eq 75 dX2_readRow_68 (by decide) (fun h68 => ?_) (fun h68 => ?_)
              · skip
                refine st_iconst dX2_readRow_75 (by decide) ?_
                refine st_iadd dX2_readRow_76 (by omega) ?_
                refine fAt_v (x' := (((nx tp ln q) : Nat) : Int)) (by omega) ?_
                refine st_put dX2_readRow_77 fl_X2_26 fp_X2_3.1 (Or.inl fp_X2_3.2) rfl rfl rfl ?_
                refine fAt_m (rS_p (fup N 3 19 k (nV tp ln (sk tp ln q))) _ _ _) ?_
                refine st_goto 4 dX2_readRow_80 (by decide) ?_
                refine st_iload_n dX2_readRow_4 rfl ?_
                refine st_if_eq 83 dX2_readRow_5 (by decide) (fun h5 => ?_) (fun h5 => ?_)
                · skip
                  refine st_iload_n dX2_readRow_83 rfl ?_
                  refine st_iconst dX2_readRow_84 (by decide) ?_
                  refine st_irem dX2_readRow_85 (by omega) (by omega) ?_
                  refine st_if_ne 94 dX2_readRow_86 (by decide) (fun h86 => ?_) (fun h86 => ?_)
                  · skip
                    refine st_aload_n dX2_readRow_94 rfl ?_
                    refine st_getr (i' := 19) dX2_readRow_95 fl_X2_18 rfl rfl rfl (fun _ => by decide) ?_
                    refine st_iload_n dX2_readRow_98 rfl ?_
                    refine st_iconst dX2_readRow_99 (by decide) ?_
                    refine st_iadd dX2_readRow_100 (by omega) ?_
                    refine st_iconst dX2_readRow_101 (by decide) ?_
                    refine st_idiv dX2_readRow_102 (by omega) (by omega) ?_
                    refine fAt_v (x' := (((k + 1 + 1) / 2 : Nat) : Int)) (by omega) ?_
                    refine st_put dX2_readRow_103 fl_X2_67 fp_X3_0.1 (Or.inl fp_X3_0.2) rfl rfl rfl ?_
                    refine fAt_m (rS_w (fup N 3 19 k (nV tp ln (sk tp ln q))) _ _ 2 19 0 _ (by decide)) ?_
                    refine st_iconst dX2_readRow_106 (by decide) ?_
                    refine st_ireturn dX2_readRow_107 rfl ⟨_, rfl, ?_⟩
                    have hr := rwp_e (f := n + 1) hF hcc
                    refine Or.inr ⟨by rw [hr], Or.inr ⟨by rw [hr]; show (k + 1) % 2 = 1; omega, rfl, nV tp ln (sk tp ln q), ?_⟩⟩
                    rw [hr, ← rwW_1 3 N k (vlp tp ln q)]
                    rfl
                  · skip
                    refine st_aload_n dX2_readRow_89 rfl ?_
                    refine st_callVi [] [] dX2_readRow_90 vl_X2_49 rfl rfl rfl rfl (Nat.le_of_ble_eq_true rfl) (by decide) (c_faultHere (M := (fup N 3 19 k (nV tp ln (sk tp ln q)))) (q := (nx tp ln q)) (v := (nV tp ln (sk tp ln q))) (by omega)) (fun zf Mf qf => ?_)
                    obtain ⟨rfl, h0f⟩ := qf
                    subst Mf
                    refine st_ireturn dX2_readRow_93 rfl ⟨_, rfl, ?_⟩
                    have hr := rwp_e (f := n + 1) hF hcc
                    refine Or.inr ⟨by rw [hr], Or.inl ⟨by rw [hr]; show (k + 1) % 2 = 0; omega, by rw [hr], rdS_t (rdS_u (by omega)) (rdS_r _ _ _)⟩⟩
                · skip
                  exact absurd rfl h5
              · skip
                exact absurd rfl h68
            · skip
              refine st_iload_n dX2_readRow_50 rfl ?_
              refine st_bipush dX2_readRow_51 (by decide) ?_
              refine st_icmp_ge 60 dX2_readRow_53 (by decide) (fun h53 => ?_) (fun h53 => ?_)
              · skip
                have hcc : ¬ (n + 1 ≠ 0 ∧ isC tp ln (nx tp ln q) 44) := fun hc => hc.1 (by omega)
                refine st_iconst dX2_readRow_60 (by decide) ?_
                refine st_istore_n (ls' := [some (vr 6 0), some (vi ((k : Int) + 1)), some (vi 0), some (vi 0)]) dX2_readRow_61 (by decide) rfl rfl ?_
                refine st_aload_n dX2_readRow_62 rfl ?_
                refine st_dup dX2_readRow_63 rfl ?_
                refine st_get dX2_readRow_64 fl_X2_26 rfl rfl rfl ?_
                refine fAt_v (x' := (((nx tp ln q) : Nat) : Int)) (rS_rp _ _ _) ?_
                refine st_iload_n dX2_readRow_67 rfl ?_
                refine st_if_eq 75 dX2_readRow_68 (by decide) (fun h68 => ?_) (fun h68 => ?_)
                · skip
                  refine st_iconst dX2_readRow_75 (by decide) ?_
                  refine st_iadd dX2_readRow_76 (by omega) ?_
                  refine fAt_v (x' := (((nx tp ln q) : Nat) : Int)) (by omega) ?_
                  refine st_put dX2_readRow_77 fl_X2_26 fp_X2_3.1 (Or.inl fp_X2_3.2) rfl rfl rfl ?_
                  refine fAt_m (rS_p (fup N 3 19 k (nV tp ln (sk tp ln q))) _ _ _) ?_
                  refine st_goto 4 dX2_readRow_80 (by decide) ?_
                  refine st_iload_n dX2_readRow_4 rfl ?_
                  refine st_if_eq 83 dX2_readRow_5 (by decide) (fun h5 => ?_) (fun h5 => ?_)
                  · skip
                    refine st_iload_n dX2_readRow_83 rfl ?_
                    refine st_iconst dX2_readRow_84 (by decide) ?_
                    refine st_irem dX2_readRow_85 (by omega) (by omega) ?_
                    refine st_if_ne 94 dX2_readRow_86 (by decide) (fun h86 => ?_) (fun h86 => ?_)
                    · skip
                      refine st_aload_n dX2_readRow_94 rfl ?_
                      refine st_getr (i' := 19) dX2_readRow_95 fl_X2_18 rfl rfl rfl (fun _ => by decide) ?_
                      refine st_iload_n dX2_readRow_98 rfl ?_
                      refine st_iconst dX2_readRow_99 (by decide) ?_
                      refine st_iadd dX2_readRow_100 (by omega) ?_
                      refine st_iconst dX2_readRow_101 (by decide) ?_
                      refine st_idiv dX2_readRow_102 (by omega) (by omega) ?_
                      refine fAt_v (x' := (((k + 1 + 1) / 2 : Nat) : Int)) (by omega) ?_
                      refine st_put dX2_readRow_103 fl_X2_67 fp_X3_0.1 (Or.inl fp_X3_0.2) rfl rfl rfl ?_
                      refine fAt_m (rS_w (fup N 3 19 k (nV tp ln (sk tp ln q))) _ _ 2 19 0 _ (by decide)) ?_
                      refine st_iconst dX2_readRow_106 (by decide) ?_
                      refine st_ireturn dX2_readRow_107 rfl ⟨_, rfl, ?_⟩
                      have hr := rwp_e (f := n + 1) hF hcc
                      refine Or.inr ⟨by rw [hr], Or.inr ⟨by rw [hr]; show (k + 1) % 2 = 1; omega, rfl, nV tp ln (sk tp ln q), ?_⟩⟩
                      rw [hr, ← rwW_1 3 N k (vlp tp ln q)]
                      rfl
                    · skip
                      refine st_aload_n dX2_readRow_89 rfl ?_
                      refine st_callVi [] [] dX2_readRow_90 vl_X2_49 rfl rfl rfl rfl (Nat.le_of_ble_eq_true rfl) (by decide) (c_faultHere (M := (fup N 3 19 k (nV tp ln (sk tp ln q)))) (q := (nx tp ln q)) (v := (nV tp ln (sk tp ln q))) (by omega)) (fun zf Mf qf => ?_)
                      obtain ⟨rfl, h0f⟩ := qf
                      subst Mf
                      refine st_ireturn dX2_readRow_93 rfl ⟨_, rfl, ?_⟩
                      have hr := rwp_e (f := n + 1) hF hcc
                      refine Or.inr ⟨by rw [hr], Or.inl ⟨by rw [hr]; show (k + 1) % 2 = 0; omega, by rw [hr], rdS_t (rdS_u (by omega)) (rdS_r _ _ _)⟩⟩
                  · skip
                    exact absurd rfl h5
                · skip
                  exact absurd rfl h68
              · skip
                have hcc : isC tp ln (nx tp ln q) 44 := (lr_eq (by decide)).mp h47
                refine st_iconst dX2_readRow_56 (by decide) ?_
                refine st_goto 61 dX2_readRow_57 (by decide) ?_
                refine st_istore_n (ls' := [some (vr 6 0), some (vi ((k : Int) + 1)), some (vi 1), some (vi 0)]) dX2_readRow_61 (by decide) rfl rfl ?_
                refine st_aload_n dX2_readRow_62 rfl ?_
                refine st_dup dX2_readRow_63 rfl ?_
                refine st_get dX2_readRow_64 fl_X2_26 rfl rfl rfl ?_
                refine fAt_v (x' := (((nx tp ln q) : Nat) : Int)) (rS_rp _ _ _) ?_
                refine st_iload_n dX2_readRow_67 rfl ?_
                refine st_if_eq 75 dX2_readRow_68 (by decide) (fun h68 => ?_) (fun h68 => ?_)
                · skip
                  exact absurd h68 (by decide)
                · skip
                  refine st_iconst dX2_readRow_71 (by decide) ?_
                  refine st_goto 76 dX2_readRow_72 (by decide) ?_
                  refine st_iadd dX2_readRow_76 (by omega) ?_
                  refine fAt_v (x' := ((((nx tp ln q) + 1) : Nat) : Int)) (by omega) ?_
                  refine st_put dX2_readRow_77 fl_X2_26 fp_X2_3.1 (Or.inl fp_X2_3.2) rfl rfl rfl ?_
                  refine fAt_m (rS_p (fup N 3 19 k (nV tp ln (sk tp ln q))) _ _ _) ?_
                  refine st_goto 4 dX2_readRow_80 (by decide) ?_
                  refine fAt_del 3 rfl ?_
                  refine fAt_q (fun r M' h => ?_) (ih (k + 1) (fup N 3 19 k (nV tp ln (sk tp ln q))) (nx tp ln q + 1) (nV tp ln (sk tp ln q)) (by omega) (by omega) ht1 hl hpr)
                  have hr := rwp_c (p := p) (f := n + 1) hF (by omega) hcc
                  obtain ⟨z, e, h⟩ := h
                  refine ⟨z, e, ?_⟩
                  rcases h with ⟨x, h1, h2, h3⟩ | ⟨h1, ⟨h2, h3, h4⟩ | ⟨h2, h3, v', h4⟩⟩
                  · exact Or.inl ⟨x, by rw [hr]; exact h1, h2, rdS_t (rdS_u (by omega)) h3⟩
                  · exact Or.inr ⟨by rw [hr]; exact h1, Or.inl ⟨by rw [hr]; show (k + (_ + 1)) % 2 = 0; omega, by rw [hr]; exact h3, rdS_t (rdS_u (by omega)) h4⟩⟩
                  · refine Or.inr ⟨by rw [hr]; exact h1, Or.inr ⟨by rw [hr]; show (k + (_ + 1)) % 2 = 1; omega, h3, v', ?_⟩⟩
                    rw [h4, hr, ← rwW_s 3 N k _ (vlp tp ln q) (vlp tp ln (nx tp ln q + 1)) (fun i => rfl)]
                    show rS (fup _ 2 19 0 ((((k + 1 + _ + 1) / 2 : Nat)) : Int)) _ _ = rS (fup _ 2 19 0 ((((k + (_ + 1) + 1) / 2 : Nat)) : Int)) _ _
                    rw [show k + 1 + (rwp tp ln p (n + 1) (nx tp ln q + 1)).2.1 + 1 = k + ((rwp tp ln p (n + 1) (nx tp ln q + 1)).2.1 + 1) + 1 by omega]
                    rfl
          · skip
            exact absurd rfl h20
set_option maxHeartbeats 4000000 in
set_option maxRecDepth 100000 in
theorem c_readRow {g : fG} {M : fM} {tp : Nat → Int} {ln : Nat} {p : Int} (hn7 : ln ≤ 70) {q : Nat} {v : Int} (hq : q ≤ ln) (ht : M 7 0 = tp) (hl : M 6 0 0 = (ln : Int)) (hpr : M 6 0 4 = p) :
    fCi g Y_X2_readRow [vr 6 0] (rS M q v) (fun z M' => (∃ x, (rwp tp ln p 11 q).1 = some x ∧ z = -20 - (x : Int) ∧ rdS M M') ∨ ((rwp tp ln p 11 q).1 = none ∧ (((rwp tp ln p 11 q).2.1 % 2 = 0 ∧ z = -20 - ((rwp tp ln p 11 q).2.2 : Int) ∧ rdS M M') ∨ ((rwp tp ln p 11 q).2.1 % 2 = 1 ∧ z = 0 ∧ ∃ v', M' = rS (fup (rwW 3 M 0 (rwp tp ln p 11 q).2.1 (vlp tp ln q)) 2 19 0 ((((rwp tp ln p 11 q).2.1 + 1) / 2 : Nat) : Int)) (rwp tp ln p 11 q).2.2 v')))) := by
  refine fCi_of _ [some (vr 6 0), none, none, none] (by decide) (Nat.le_of_ble_eq_true rfl) rfl (fun h => h) ?_
  refine st_iconst dX2_readRow_0 (by decide) ?_
  refine st_istore_n (ls' := [some (vr 6 0), some (vi 0), none, none]) dX2_readRow_1 (by decide) rfl rfl ?_
  refine st_iconst dX2_readRow_2 (by decide) ?_
  refine st_istore_n (ls' := [some (vr 6 0), some (vi 0), some (vi 1), none]) dX2_readRow_3 (by decide) rfl rfl ?_
  refine fAt_q (fun r M' h => ?_) (readRow_l (tp := tp) (p := p) hn7 10 0 M q v (by omega) hq ht hl hpr)
  obtain ⟨z, e, h⟩ := h
  refine ⟨z, e, ?_⟩
  rw [Nat.zero_add] at h
  exact h
set_option maxHeartbeats 4000000 in
set_option maxRecDepth 100000 in
theorem readSide_l {g : fG}  {tp : Nat → Int} {ln : Nat} {p : Int} (hn7 : ln ≤ 70) {w : Nat} (hw6 : w ≤ 6) :
    ∀ (n : Nat) (k : Nat) (N : fM) (q : Nat) (v : Int), k + (n + 1) = w → q ≤ ln → N 7 0 = tp → N 6 0 0 = (ln : Int) → N 6 0 4 = p → N 2 19 0 = (w : Int) → fAt g Y_X2_readSide 41 [some (vr 6 0), some (vi (k : Int)), none] [] (rS N q v) (fI (fun z M' => (∃ x, (rwp tp ln p (n + 1) q).1 = some x ∧ z = -20 - (x : Int) ∧ rdS N M') ∨ ((rwp tp ln p (n + 1) q).1 = none ∧ (((rwp tp ln p (n + 1) q).2.1 ≠ n + 1 ∧ z = -20 - ((rwp tp ln p (n + 1) q).2.2 : Int) ∧ rdS N M') ∨ ((rwp tp ln p (n + 1) q).2.1 = n + 1 ∧ z = 0 ∧ ∃ v', M' = rS (rwW 4 N k (n + 1) (vlp tp ln q)) (rwp tp ln p (n + 1) q).2.2 v'))))) := by
  intro n
  induction n with
  | zero =>
    intro k N q v hm hq ht hl hpr hw
    refine st_aload_n dX2_readSide_41 rfl ?_
    refine st_callVi [] [] dX2_readSide_42 vl_X2_61 rfl rfl rfl rfl (Nat.le_of_ble_eq_true rfl) (by decide) (c_readNumber2 (q := q) (v := v) ht hl hn7 hpr hq) (fun z Mr qr => ?_)
    rcases qr with ⟨x, q', v', hF, rfl, h0⟩ | ⟨hF, rfl, h0⟩
    · skip
      subst Mr
      refine st_istore_n (ls' := [some (vr 6 0), some (vi (k : Int)), some (vi (-20 - (x : Int)))]) dX2_readSide_45 (by decide) rfl rfl ?_
      refine st_iload_n dX2_readSide_46 rfl ?_
      refine st_if_eq 52 dX2_readSide_47 (by decide) (fun h47 => ?_) (fun h47 => ?_)
      · skip
        exact absurd h47 (by omega)
      · skip
        refine st_iload_n dX2_readSide_50 rfl ?_
        refine st_ireturn dX2_readSide_51 rfl ⟨_, rfl, Or.inl ⟨x, by rw [rwp_f hF], rfl, rdS_r N q' v'⟩⟩
    · skip
      subst Mr
      have hnb := nx_b hF
      have hvb := nV_b (nF_n hF).1
      refine st_istore_n (ls' := [some (vr 6 0), some (vi (k : Int)), some (vi 0)]) dX2_readSide_45 (by decide) rfl rfl ?_
      refine st_iload_n dX2_readSide_46 rfl ?_
      refine st_if_eq 52 dX2_readSide_47 (by decide) (fun h47 => ?_) (fun h47 => ?_)
      · skip
        refine st_aload_n dX2_readSide_52 rfl ?_
        refine st_getr (i' := 19) dX2_readSide_53 fl_X2_18 rfl rfl rfl (fun _ => by decide) ?_
        refine st_getr (i' := 19) dX2_readSide_56 fl_X2_70 rfl rfl rfl (fun _ => by decide) ?_
        refine st_iload_n dX2_readSide_59 rfl ?_
        refine st_aload_n dX2_readSide_60 rfl ?_
        refine st_get dX2_readSide_61 fl_X2_32 rfl rfl rfl ?_
        refine fAt_v (x' := (nV tp ln (sk tp ln q))) (rS_rv _ _ _) ?_
        refine st_iast (j := k) dX2_readSide_64 rfl rfl rfl rfl (by omega) ?_
        refine fAt_m (rS_w N _ _ 4 19 k _ (by decide)) ?_
        have ht1 : fup N 4 19 k (nV tp ln (sk tp ln q)) 7 0 = tp := (funext fun b => fup_ne (by omega)).trans ht
        refine st_iinc (ls' := [some (vr 6 0), some (vi ((k : Int) + 1)), some (vi 0)]) dX2_readSide_65 rfl (by omega) (by decide) rfl rfl ?_
        refine st_goto 2 dX2_readSide_68 (by decide) ?_
        refine st_iload_n dX2_readSide_2 rfl ?_
        refine st_aload_n dX2_readSide_3 rfl ?_
        refine st_getr (i' := 19) dX2_readSide_4 fl_X2_18 rfl rfl rfl (fun _ => by decide) ?_
        refine st_get dX2_readSide_7 fl_X2_67 rfl rfl rfl ?_
        refine fAt_v (x' := (w : Int)) ((rS_ne (by omega)).trans ((fup_ne (by omega)).trans hw)) ?_
        refine st_icmp_ge 71 dX2_readSide_10 (by decide) (fun h10 => ?_) (fun h10 => ?_)
        · skip
          refine st_iconst dX2_readSide_71 (by decide) ?_
          refine st_ireturn dX2_readSide_72 rfl ⟨_, rfl, ?_⟩
          have hr := rwp_e (p := p) (f := 0) hF (by omega)
          refine Or.inr ⟨by rw [hr], Or.inr ⟨by rw [hr], rfl, nV tp ln (sk tp ln q), ?_⟩⟩
          rw [hr, ← rwW_1 4 N k (vlp tp ln q)]
          rfl
        · skip
          exact absurd h10 (by omega)
      · skip
        exact absurd rfl h47
  | succ n ih =>
    intro k N q v hm hq ht hl hpr hw
    refine st_aload_n dX2_readSide_41 rfl ?_
    refine st_callVi [] [] dX2_readSide_42 vl_X2_61 rfl rfl rfl rfl (Nat.le_of_ble_eq_true rfl) (by decide) (c_readNumber2 (q := q) (v := v) ht hl hn7 hpr hq) (fun z Mr qr => ?_)
    rcases qr with ⟨x, q', v', hF, rfl, h0⟩ | ⟨hF, rfl, h0⟩
    · skip
      subst Mr
      refine st_istore_n (ls' := [some (vr 6 0), some (vi (k : Int)), some (vi (-20 - (x : Int)))]) dX2_readSide_45 (by decide) rfl rfl ?_
      refine st_iload_n dX2_readSide_46 rfl ?_
      refine st_if_eq 52 dX2_readSide_47 (by decide) (fun h47 => ?_) (fun h47 => ?_)
      · skip
        exact absurd h47 (by omega)
      · skip
        refine st_iload_n dX2_readSide_50 rfl ?_
        refine st_ireturn dX2_readSide_51 rfl ⟨_, rfl, Or.inl ⟨x, by rw [rwp_f hF], rfl, rdS_r N q' v'⟩⟩
    · skip
      subst Mr
      have hnb := nx_b hF
      have hvb := nV_b (nF_n hF).1
      refine st_istore_n (ls' := [some (vr 6 0), some (vi (k : Int)), some (vi 0)]) dX2_readSide_45 (by decide) rfl rfl ?_
      refine st_iload_n dX2_readSide_46 rfl ?_
      refine st_if_eq 52 dX2_readSide_47 (by decide) (fun h47 => ?_) (fun h47 => ?_)
      · skip
        refine st_aload_n dX2_readSide_52 rfl ?_
        refine st_getr (i' := 19) dX2_readSide_53 fl_X2_18 rfl rfl rfl (fun _ => by decide) ?_
        refine st_getr (i' := 19) dX2_readSide_56 fl_X2_70 rfl rfl rfl (fun _ => by decide) ?_
        refine st_iload_n dX2_readSide_59 rfl ?_
        refine st_aload_n dX2_readSide_60 rfl ?_
        refine st_get dX2_readSide_61 fl_X2_32 rfl rfl rfl ?_
        refine fAt_v (x' := (nV tp ln (sk tp ln q))) (rS_rv _ _ _) ?_
        refine st_iast (j := k) dX2_readSide_64 rfl rfl rfl rfl (by omega) ?_
        refine fAt_m (rS_w N _ _ 4 19 k _ (by decide)) ?_
        have ht1 : fup N 4 19 k (nV tp ln (sk tp ln q)) 7 0 = tp := (funext fun b => fup_ne (by omega)).trans ht
        refine st_iinc (ls' := [some (vr 6 0), some (vi ((k : Int) + 1)), some (vi 0)]) dX2_readSide_65 rfl (by omega) (by decide) rfl rfl ?_
        refine st_goto 2 dX2_readSide_68 (by decide) ?_
        refine st_iload_n dX2_readSide_2 rfl ?_
        refine st_aload_n dX2_readSide_3 rfl ?_
        refine st_getr (i' := 19) dX2_readSide_4 fl_X2_18 rfl rfl rfl (fun _ => by decide) ?_
        refine st_get dX2_readSide_7 fl_X2_67 rfl rfl rfl ?_
        refine fAt_v (x' := (w : Int)) ((rS_ne (by omega)).trans ((fup_ne (by omega)).trans hw)) ?_
        refine st_icmp_ge 71 dX2_readSide_10 (by decide) (fun h10 => ?_) (fun h10 => ?_)
        · skip
          exact absurd h10 (by omega)
        · skip
          refine st_iload_n dX2_readSide_13 rfl ?_
          refine st_if_le 41 dX2_readSide_14 (by decide) (fun h14 => ?_) (fun h14 => ?_)
          · skip
            exact absurd h14 (by omega)
          · skip
            refine st_aload_n dX2_readSide_17 rfl ?_
            refine st_callVi [] [] dX2_readSide_18 vl_X2_38 rfl rfl rfl rfl (Nat.le_of_ble_eq_true rfl) (by decide) (c_letterHere2 (q := (nx tp ln q)) (v := (nV tp ln (sk tp ln q))) ht1 hl hn7) (fun zl Ml ql => ?_)
            obtain ⟨rfl, h0l⟩ := ql
            subst Ml
            refine st_bipush dX2_readSide_21 (by decide) ?_
            refine st_icmp_eq 31 dX2_readSide_23 (by decide) (fun h23 => ?_) (fun h23 => ?_)
            · skip
              refine st_aload_n dX2_readSide_31 rfl ?_
              refine st_dup dX2_readSide_32 rfl ?_
              refine st_get dX2_readSide_33 fl_X2_26 rfl rfl rfl ?_
              refine fAt_v (x' := (((nx tp ln q) : Nat) : Int)) (rS_rp _ _ _) ?_
              refine st_iconst dX2_readSide_36 (by decide) ?_
              refine st_iadd dX2_readSide_37 (by omega) ?_
              refine st_put dX2_readSide_38 fl_X2_26 fp_X2_3.1 (Or.inl fp_X2_3.2) rfl rfl rfl ?_
              refine fAt_m (rS_p (fup N 4 19 k (nV tp ln (sk tp ln q))) _ ((nx tp ln q) + 1) _) ?_
              refine fAt_del 2 rfl ?_
              have hcc : isC tp ln (nx tp ln q) 44 := (lr_eq (by decide)).mp h23
              refine fAt_q (fun r M' h => ?_) (ih (k + 1) (fup N 4 19 k (nV tp ln (sk tp ln q))) (nx tp ln q + 1) (nV tp ln (sk tp ln q)) (by omega) (by omega) ht1 hl hpr hw)
              have hr := rwp_c (p := p) (f := n + 1) hF (by omega) hcc
              obtain ⟨z, e, h⟩ := h
              refine ⟨z, e, ?_⟩
              rcases h with ⟨x, h1, h2, h3⟩ | ⟨h1, ⟨h2, h3, h4⟩ | ⟨h2, h3, v', h4⟩⟩
              · exact Or.inl ⟨x, by rw [hr]; exact h1, h2, rdS_t (rdS_u (by omega)) h3⟩
              · exact Or.inr ⟨by rw [hr]; exact h1, Or.inl ⟨by rw [hr]; show _ + 1 ≠ _; omega, by rw [hr]; exact h3, rdS_t (rdS_u (by omega)) h4⟩⟩
              · refine Or.inr ⟨by rw [hr]; exact h1, Or.inr ⟨by rw [hr]; show _ + 1 = _; omega, h3, v', ?_⟩⟩
                rw [h4, hr, ← rwW_s 4 N k _ (vlp tp ln q) (vlp tp ln (nx tp ln q + 1)) (fun i => rfl)]
                rfl
            · skip
              refine st_aload_n dX2_readSide_26 rfl ?_
              refine st_callVi [] [] dX2_readSide_27 vl_X2_49 rfl rfl rfl rfl (Nat.le_of_ble_eq_true rfl) (by decide) (c_faultHere (M := (fup N 4 19 k (nV tp ln (sk tp ln q)))) (q := (nx tp ln q)) (v := (nV tp ln (sk tp ln q))) (by omega)) (fun zf Mf qf => ?_)
              obtain ⟨rfl, h0f⟩ := qf
              subst Mf
              refine st_ireturn dX2_readSide_30 rfl ⟨_, rfl, ?_⟩
              have hr := rwp_e (p := p) (f := n + 1) hF (fun hc => h23 ((lr_eq (by decide)).mpr hc.2))
              exact Or.inr ⟨by rw [hr], Or.inl ⟨by rw [hr]; show 1 ≠ _; omega, by rw [hr], rdS_t (rdS_u (by omega)) (rdS_r _ _ _)⟩⟩
      · skip
        exact absurd rfl h47
set_option maxHeartbeats 4000000 in
set_option maxRecDepth 100000 in
theorem c_readSide {g : fG} {M : fM} {tp : Nat → Int} {ln : Nat} {p : Int} (hn7 : ln ≤ 70) {q : Nat} {v : Int} (hq : q ≤ ln) (ht : M 7 0 = tp) (hl : M 6 0 0 = (ln : Int)) (hpr : M 6 0 4 = p) {w : Nat} (hw6 : 1 ≤ w ∧ w ≤ 6) (hw : M 2 19 0 = (w : Int)) :
    fCi g Y_X2_readSide [vr 6 0] (rS M q v) (fun z M' => (∃ x, (rwp tp ln p w q).1 = some x ∧ z = -20 - (x : Int) ∧ rdS M M') ∨ ((rwp tp ln p w q).1 = none ∧ (((rwp tp ln p w q).2.1 ≠ w ∧ z = -20 - ((rwp tp ln p w q).2.2 : Int) ∧ rdS M M') ∨ ((rwp tp ln p w q).2.1 = w ∧ z = 0 ∧ ∃ v', M' = rS (rwW 4 M 0 w (vlp tp ln q)) (rwp tp ln p w q).2.2 v')))) := by
  refine fCi_of _ [some (vr 6 0), none, none] (by decide) (Nat.le_of_ble_eq_true rfl) rfl (fun h => h) ?_
  refine st_iconst dX2_readSide_0 (by decide) ?_
  refine st_istore_n (ls' := [some (vr 6 0), some (vi 0), none]) dX2_readSide_1 (by decide) rfl rfl ?_
  refine st_iload_n dX2_readSide_2 rfl ?_
  refine st_aload_n dX2_readSide_3 rfl ?_
  refine st_getr (i' := 19) dX2_readSide_4 fl_X2_18 rfl rfl rfl (fun _ => by decide) ?_
  refine st_get dX2_readSide_7 fl_X2_67 rfl rfl rfl ?_
  refine fAt_v (x' := (w : Int)) ((rS_ne (by omega)).trans hw) ?_
  refine st_icmp_ge 71 dX2_readSide_10 (by decide) (fun h10 => ?_) (fun h10 => ?_)
  · skip
    exact absurd h10 (by omega)
  · skip
    refine st_iload_n dX2_readSide_13 rfl ?_
    refine st_if_le 41 dX2_readSide_14 (by decide) (fun h14 => ?_) (fun h14 => ?_)
    · skip
      obtain ⟨m, rfl⟩ : ∃ m, w = m + 1 := ⟨w - 1, by omega⟩
      exact readSide_l (tp := tp) (p := p) (w := m + 1) hn7 (by omega) m 0 M q v (by omega) hq ht hl hpr hw
    · skip
      exact absurd h14 (by omega)
