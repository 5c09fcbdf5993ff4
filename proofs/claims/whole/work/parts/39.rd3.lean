theorem rS_in (M : fM) (q : Nat) : fup M 6 0 3 (q : Int) = rS M q (M 6 0 5) := by
  funext a b c
  simp only [rS, fup]
  grind (splits := 30)
/-- what a good text leaves -/
def MxR (M M' : fM) (tp : Nat → Int) (ln : Nat) (p : Int) : Prop :=
  rdS M M' ∧ M' 2 19 0 = ((tW tp ln p : Nat) : Int) ∧ M' 2 19 1 = kb (lr tp ln (tS0 tp ln) (-1)) ∧ 0 ≤ kb (lr tp ln (tS0 tp ln) (-1)) ∧ (tR1 tp ln p).1 = none ∧ (tR1 tp ln p).2.1 % 2 = 1 ∧
  (∀ j, j < (tR1 tp ln p).2.1 → M' 3 19 j = vlp tp ln (tS0 tp ln + 1) j) ∧
  (∀ i, i < tW tp ln p → M' 4 19 i = if isC tp ln (tR1 tp ln p).2.2 61 then vlp tp ln ((tR1 tp ln p).2.2 + 1) i else 0) ∧
  (isC tp ln (tR1 tp ln p).2.2 61 → (tR2 tp ln p).1 = none ∧ (tR2 tp ln p).2.1 = tW tp ln p)
theorem kb_ne {tp : Nat → Int} {n q : Nat} (h : 0 ≤ kb (lr tp n q (-1))) : q < n := by
  apply Classical.byContradiction
  intro e
  rw [lr_out e] at h
  exact absurd h (by decide)
theorem rd4 (M : fM) (p : Int) : rdS M (fup M 6 0 4 p) := fun k a b q1 _ => fup_ne (by omega)
theorem rdc (M : fM) (c : Nat) : rdS M (clW M c) := fun k a b _ q2 => by
  unfold clW
  rw [if_neg (by omega)]
theorem lr_neg {tp : Nat → Int} {n q : Nat} (hT : ∀ b, b < n → 0 ≤ tp b) : lr tp n q (-1) < 0 ↔ ¬ q < n := by
  unfold lr
  split
  · rename_i h
    have := hT q h
    exact ⟨fun k => absurd k (by omega), fun k => absurd h k⟩
  · rename_i h
    exact ⟨fun _ => h, fun _ => by decide⟩
theorem mtF_e (tp : Nat → Int) (ln : Nat) (p : Int) : mtF tp ln p = if (kb (lr tp ln (sk tp ln 0) (-1))) < 0 then some (sk tp ln 0)
  else if (rwp tp ln p 11 ((sk tp ln 0) + 1)).1.isSome then (rwp tp ln p 11 ((sk tp ln 0) + 1)).1
  else if (rwp tp ln p 11 ((sk tp ln 0) + 1)).2.1 % 2 = 0 then some (rwp tp ln p 11 ((sk tp ln 0) + 1)).2.2
  else if isC tp ln (rwp tp ln p 11 ((sk tp ln 0) + 1)).2.2 61 then (if (rwp tp ln p (((rwp tp ln p 11 ((sk tp ln 0) + 1)).2.1 + 1) / 2) ((rwp tp ln p 11 ((sk tp ln 0) + 1)).2.2 + 1)).1.isSome then (rwp tp ln p (((rwp tp ln p 11 ((sk tp ln 0) + 1)).2.1 + 1) / 2) ((rwp tp ln p 11 ((sk tp ln 0) + 1)).2.2 + 1)).1 else if (rwp tp ln p (((rwp tp ln p 11 ((sk tp ln 0) + 1)).2.1 + 1) / 2) ((rwp tp ln p 11 ((sk tp ln 0) + 1)).2.2 + 1)).2.1 ≠ (((rwp tp ln p 11 ((sk tp ln 0) + 1)).2.1 + 1) / 2) then some (rwp tp ln p (((rwp tp ln p 11 ((sk tp ln 0) + 1)).2.1 + 1) / 2) ((rwp tp ln p 11 ((sk tp ln 0) + 1)).2.2 + 1)).2.2 else if (rwp tp ln p (((rwp tp ln p 11 ((sk tp ln 0) + 1)).2.1 + 1) / 2) ((rwp tp ln p 11 ((sk tp ln 0) + 1)).2.2 + 1)).2.2 < ln then some (rwp tp ln p (((rwp tp ln p 11 ((sk tp ln 0) + 1)).2.1 + 1) / 2) ((rwp tp ln p 11 ((sk tp ln 0) + 1)).2.2 + 1)).2.2 else none)
  else if (rwp tp ln p 11 ((sk tp ln 0) + 1)).2.2 < ln then some (rwp tp ln p 11 ((sk tp ln 0) + 1)).2.2 else none := rfl
set_option maxHeartbeats 4000000 in
set_option maxRecDepth 100000 in
theorem c_readMatrix {g : fG} {M : fM} {tp : Nat → Int} {ln : Nat} {p : Int} (hn7 : ln ≤ 70) (ht : M 7 0 = tp) (hl : M 6 0 0 = (ln : Int)) (hT : ∀ b, b < ln → 0 ≤ tp b) :
    fCi g Y_X2_readMatrix [vr 6 0, vi p] M (fun z M' => (∃ x, mtF tp ln p = some x ∧ z = -20 - (x : Int) ∧ rdS M M') ∨ (mtF tp ln p = none ∧ z = 0 ∧ MxR M M' tp ln p)) := by
  refine fCi_of _ [some (vr 6 0), some (vi p), none] (by decide) (Nat.le_of_ble_eq_true rfl) rfl (fun h => h) ?_
  refine st_aload_n dX2_readMatrix_0 rfl ?_
  refine st_iload_n dX2_readMatrix_1 rfl ?_
  refine st_put dX2_readMatrix_2 fl_X2_29 fp_X2_4.1 (Or.inl fp_X2_4.2) rfl rfl rfl ?_
  refine st_aload_n dX2_readMatrix_5 rfl ?_
  refine st_iconst dX2_readMatrix_6 (by decide) ?_
  refine st_put dX2_readMatrix_7 fl_X2_26 fp_X2_3.1 (Or.inl fp_X2_3.2) rfl rfl rfl ?_
  refine fAt_m (rS_in (fup M 6 0 4 p) 0) ?_
  have ht4 : fup M 6 0 4 p 7 0 = tp := (funext fun b => fup_ne (by omega)).trans ht
  have hs0 := sk_le (tp := tp) (Nat.zero_le ln)
  refine st_aload_n dX2_readMatrix_10 rfl ?_
  refine st_callVv [] [] dX2_readMatrix_11 vl_X2_35 rfl rfl rfl rfl (Nat.le_of_ble_eq_true rfl) (by decide) (c_skipBlanks (M := (fup M 6 0 4 p)) (ln := ln) (q := 0) (v := ((fup M 6 0 4 p) 6 0 5)) hl hn7 (Nat.zero_le _)) (fun Ms qs => ?_)
  rw [ht4] at qs
  subst qs
  refine st_aload_n dX2_readMatrix_14 rfl ?_
  refine st_getr (i' := 19) dX2_readMatrix_15 fl_X2_18 rfl rfl rfl (fun _ => by decide) ?_
  refine st_aload_n dX2_readMatrix_18 rfl ?_
  refine st_callVi [] [vr 2 19] dX2_readMatrix_19 vl_X2_38 rfl rfl rfl rfl (Nat.le_of_ble_eq_true rfl) (by decide) (c_letterHere2 (q := (sk tp ln 0)) (v := ((fup M 6 0 4 p) 6 0 5)) ht4 hl hn7) (fun zl Ml ql => ?_)
  obtain ⟨rfl, h0l⟩ := ql
  subst Ml
  refine st_callSi [vi (lr tp ln (sk tp ln 0) (-1))] [vr 2 19] dX2_readMatrix_22 sl_X2_42 rfl rfl (Nat.le_of_ble_eq_true rfl) (by decide) (c_kindOf) (fun zk Mk qk => ?_)
  obtain ⟨rfl, h0k⟩ := qk
  subst Mk
  refine st_put dX2_readMatrix_25 fl_X2_46 fp_X3_1.1 (Or.inl fp_X3_1.2) rfl rfl rfl ?_
  refine fAt_m (rS_w (fup M 6 0 4 p) _ _ 2 19 1 _ (by decide)) ?_
  have ht5 : (fup (fup M 6 0 4 p) 2 19 1 (kb (lr tp ln (sk tp ln 0) (-1)))) 7 0 = tp := (funext fun b => fup_ne (by omega)).trans ht4
  refine st_aload_n dX2_readMatrix_28 rfl ?_
  refine st_getr (i' := 19) dX2_readMatrix_29 fl_X2_18 rfl rfl rfl (fun _ => by decide) ?_
  refine st_get dX2_readMatrix_32 fl_X2_46 rfl rfl rfl ?_
  refine fAt_v (x' := (kb (lr tp ln (sk tp ln 0) (-1)))) ((rS_ne (by omega)).trans fup_eq) ?_
  refine st_if_ge 43 dX2_readMatrix_35 (by decide) (fun h35 => ?_) (fun h35 => ?_)
  · skip
    have h35k : 0 ≤ (kb (lr tp ln (sk tp ln 0) (-1))) := by omega
    have hs1 := kb_ne h35k
    refine st_aload_n dX2_readMatrix_43 rfl ?_
    refine st_dup dX2_readMatrix_44 rfl ?_
    refine st_get dX2_readMatrix_45 fl_X2_26 rfl rfl rfl ?_
    refine fAt_v (x' := (((sk tp ln 0) : Nat) : Int)) (rS_rp _ _ _) ?_
    refine st_iconst dX2_readMatrix_48 (by decide) ?_
    refine st_iadd dX2_readMatrix_49 (by omega) ?_
    refine st_put dX2_readMatrix_50 fl_X2_26 fp_X2_3.1 (Or.inl fp_X2_3.2) rfl rfl rfl ?_
    refine fAt_m (rS_p (fup (fup M 6 0 4 p) 2 19 1 (kb (lr tp ln (sk tp ln 0) (-1)))) _ ((sk tp ln 0) + 1) _) ?_
    refine st_aload_n dX2_readMatrix_53 rfl ?_
    refine st_callVi [] [] dX2_readMatrix_54 vl_X2_52 rfl rfl rfl rfl (Nat.le_of_ble_eq_true rfl) (by decide) (c_readRow (M := (fup (fup M 6 0 4 p) 2 19 1 (kb (lr tp ln (sk tp ln 0) (-1))))) (tp := tp) (ln := ln) (p := p) (q := (sk tp ln 0) + 1) (v := ((fup M 6 0 4 p) 6 0 5)) hn7 (by omega) ht5 hl ((fup_ne (by omega)).trans fup_eq)) (fun zr Mr qr => ?_)
    rcases qr with ⟨x, r1, rfl, r3⟩ | ⟨r1, ⟨r2, rfl, r3⟩ | ⟨r2, rfl, v', r3⟩⟩
    · skip
      refine st_istore_n (ls' := [some (vr 6 0), some (vi p), some (vi (-20 - (x : Int)))]) dX2_readMatrix_57 (by decide) rfl rfl ?_
      refine st_iload_n dX2_readMatrix_58 rfl ?_
      refine st_if_eq 64 dX2_readMatrix_59 (by decide) (fun h59 => ?_) (fun h59 => ?_)
      · skip
        exact absurd h59 (by omega)
      · skip
        refine st_iload_n dX2_readMatrix_62 rfl ?_
        refine st_ireturn dX2_readMatrix_63 rfl ⟨_, rfl, Or.inl ⟨x, (by rw [mtF_e]; rw [if_neg (by omega), if_pos (by rw [r1]; rfl)]; exact r1), rfl, rdS_t (rdS_t (rd4 M p) (rdS_u (by omega))) r3⟩⟩
    · skip
      refine st_istore_n (ls' := [some (vr 6 0), some (vi p), some (vi (-20 - ((rwp tp ln p 11 ((sk tp ln 0) + 1)).2.2 : Int)))]) dX2_readMatrix_57 (by decide) rfl rfl ?_
      refine st_iload_n dX2_readMatrix_58 rfl ?_
      refine st_if_eq 64 dX2_readMatrix_59 (by decide) (fun h59 => ?_) (fun h59 => ?_)
      · skip
        exact absurd h59 (by omega)
      · skip
        refine st_iload_n dX2_readMatrix_62 rfl ?_
        refine st_ireturn dX2_readMatrix_63 rfl ⟨_, rfl, Or.inl ⟨_, (by rw [mtF_e]; rw [if_neg (by omega), if_neg (by rw [r1]; decide), if_pos r2]), rfl, rdS_t (rdS_t (rd4 M p) (rdS_u (by omega))) r3⟩⟩
    · skip
      subst Mr
      have hb1 : 1 ≤ (rwp tp ln p 11 ((sk tp ln 0) + 1)).2.1 ∧ (rwp tp ln p 11 ((sk tp ln 0) + 1)).2.1 ≤ 11 ∧ (rwp tp ln p 11 ((sk tp ln 0) + 1)).2.2 ≤ ln ∧ ∀ i, i < (rwp tp ln p 11 ((sk tp ln 0) + 1)).2.1 → 0 ≤ vlp tp ln (sk tp ln 0 + 1) i ∧ vlp tp ln (sk tp ln 0 + 1) i < p := rwp_b (tp := tp) (p := p) 10 ((sk tp ln 0) + 1) (by omega) r1
      have hm8 : rdS M (clW (fup (rwW 3 (fup (fup M 6 0 4 p) 2 19 1 (kb (lr tp ln (sk tp ln 0) (-1)))) 0 (rwp tp ln p 11 ((sk tp ln 0) + 1)).2.1 (vlp tp ln ((sk tp ln 0) + 1))) 2 19 0 ((((rwp tp ln p 11 ((sk tp ln 0) + 1)).2.1 + 1) / 2 : Nat) : Int)) 6) := rdS_t (rdS_t (rd4 M p) (rdS_u (by omega))) (rdS_t (rdS_w (by omega)) (rdS_t (rdS_u (by omega)) (rdc _ 6)))
      refine st_istore_n (ls' := [some (vr 6 0), some (vi p), some (vi 0)]) dX2_readMatrix_57 (by decide) rfl rfl ?_
      refine st_iload_n dX2_readMatrix_58 rfl ?_
      refine st_if_eq 64 dX2_readMatrix_59 (by decide) (fun h59 => ?_) (fun h59 => ?_)
      · skip
        refine st_aload_n dX2_readMatrix_64 rfl ?_
        refine st_callVv [] [] dX2_readMatrix_65 vl_X2_55 rfl rfl rfl rfl (Nat.le_of_ble_eq_true rfl) (by decide) (c_clearSide) (fun Mc qc => ?_)
        subst qc
        refine fAt_m (clW_r (fup (rwW 3 (fup (fup M 6 0 4 p) 2 19 1 (kb (lr tp ln (sk tp ln 0) (-1)))) 0 (rwp tp ln p 11 ((sk tp ln 0) + 1)).2.1 (vlp tp ln ((sk tp ln 0) + 1))) 2 19 0 ((((rwp tp ln p 11 ((sk tp ln 0) + 1)).2.1 + 1) / 2 : Nat) : Int)) _ _ 6) ?_
        have ht7 : (clW (fup (rwW 3 (fup (fup M 6 0 4 p) 2 19 1 (kb (lr tp ln (sk tp ln 0) (-1)))) 0 (rwp tp ln p 11 ((sk tp ln 0) + 1)).2.1 (vlp tp ln ((sk tp ln 0) + 1))) 2 19 0 ((((rwp tp ln p 11 ((sk tp ln 0) + 1)).2.1 + 1) / 2 : Nat) : Int)) 6) 7 0 = tp := (funext fun b => hm8 7 0 b (by omega) (by omega)).trans ht
        refine st_aload_n dX2_readMatrix_68 rfl ?_
        refine st_callVi [] [] dX2_readMatrix_69 vl_X2_38 rfl rfl rfl rfl (Nat.le_of_ble_eq_true rfl) (by decide) (c_letterHere2 (q := (rwp tp ln p 11 ((sk tp ln 0) + 1)).2.2) (v := v') ht7 hl hn7) (fun zm Mm qm => ?_)
        obtain ⟨rfl, h0m⟩ := qm
        subst Mm
        refine st_bipush dX2_readMatrix_72 (by decide) ?_
        refine st_icmp_ne 92 dX2_readMatrix_74 (by decide) (fun h74 => ?_) (fun h74 => ?_)
        · skip
          have hc : ¬ isC tp ln (rwp tp ln p 11 ((sk tp ln 0) + 1)).2.2 61 := fun q => h74 ((lr_eq (by decide)).mpr q)
          refine st_iload_n dX2_readMatrix_92 rfl ?_
          refine st_if_ne 103 dX2_readMatrix_93 (by decide) (fun h93 => ?_) (fun h93 => ?_)
          · skip
            exact absurd rfl h93
          · skip
            refine st_aload_n dX2_readMatrix_96 rfl ?_
            refine st_callVi [] [] dX2_readMatrix_97 vl_X2_38 rfl rfl rfl rfl (Nat.le_of_ble_eq_true rfl) (by decide) (c_letterHere2 (q := (rwp tp ln p 11 ((sk tp ln 0) + 1)).2.2) (v := v') ht7 hl hn7) (fun zn Mn qn => ?_)
            obtain ⟨rfl, h0n⟩ := qn
            subst Mn
            refine st_if_ge 107 dX2_readMatrix_100 (by decide) (fun h100 => ?_) (fun h100 => ?_)
            · skip
              have h100 : (rwp tp ln p 11 ((sk tp ln 0) + 1)).2.2 < ln := Classical.byContradiction fun q => absurd ((lr_neg hT).mpr q) (by omega)
              refine st_aload_n dX2_readMatrix_107 rfl ?_
              refine st_callVi [] [] dX2_readMatrix_108 vl_X2_49 rfl rfl rfl rfl (Nat.le_of_ble_eq_true rfl) (by decide) (c_faultHere (M := (clW (fup (rwW 3 (fup (fup M 6 0 4 p) 2 19 1 (kb (lr tp ln (sk tp ln 0) (-1)))) 0 (rwp tp ln p 11 ((sk tp ln 0) + 1)).2.1 (vlp tp ln ((sk tp ln 0) + 1))) 2 19 0 ((((rwp tp ln p 11 ((sk tp ln 0) + 1)).2.1 + 1) / 2 : Nat) : Int)) 6)) (q := (rwp tp ln p 11 ((sk tp ln 0) + 1)).2.2) (v := v') (by omega)) (fun zf Mf qf => ?_)
              obtain ⟨rfl, h0f⟩ := qf
              subst Mf
              refine st_ireturn dX2_readMatrix_111 rfl ⟨_, rfl, ?_⟩
              first
              | exact Or.inl ⟨_, (by rw [mtF_e]; rw [if_neg (by omega), if_neg (by rw [r1]; decide), if_neg (by omega), if_neg hc, if_pos (by omega)]), rfl, rdS_t hm8 (rdS_r _ _ _)⟩
              | (refine Or.inr ⟨(by rw [mtF_e]; rw [if_neg (by omega), if_neg (by rw [r1]; decide), if_neg (by omega), if_neg hc, if_neg (by omega)]), rfl, rdS_t hm8 (rdS_r _ _ _), ?_, ?_, h35k, r1, r2, fun j hj => ?_, fun i hi => ?_, fun q => absurd q hc⟩
                 · exact (rS_ne (by omega)).trans (show (fup (rwW 3 (fup (fup M 6 0 4 p) 2 19 1 (kb (lr tp ln (sk tp ln 0) (-1)))) 0 (rwp tp ln p 11 ((sk tp ln 0) + 1)).2.1 (vlp tp ln ((sk tp ln 0) + 1))) 2 19 0 ((((rwp tp ln p 11 ((sk tp ln 0) + 1)).2.1 + 1) / 2 : Nat) : Int)) 2 19 0 = _ from fup_eq)
                 · exact (rS_ne (by omega)).trans (show (fup (fup M 6 0 4 p) 2 19 1 (kb (lr tp ln (sk tp ln 0) (-1)))) 2 19 1 = _ from fup_eq)
                 · refine (rS_ne (by omega)).trans ?_
                   have hj : j < (rwp tp ln p 11 ((sk tp ln 0) + 1)).2.1 := hj
                   show (rwW 3 (fup (fup M 6 0 4 p) 2 19 1 (kb (lr tp ln (sk tp ln 0) (-1)))) 0 (rwp tp ln p 11 ((sk tp ln 0) + 1)).2.1 (vlp tp ln (sk tp ln 0 + 1))) 3 19 j = _
                   unfold rwW
                   rw [if_pos ⟨rfl, rfl, by omega, by omega⟩, Nat.sub_zero]
                 · refine (rS_ne (by omega)).trans ?_
                   have hi : i < (((rwp tp ln p 11 ((sk tp ln 0) + 1)).2.1 + 1) / 2) := hi
                   unfold clW
                   rw [if_pos ⟨rfl, rfl, by omega⟩, if_neg hc])
            · skip
              have h100 : ¬ (rwp tp ln p 11 ((sk tp ln 0) + 1)).2.2 < ln := (lr_neg hT).mp (by omega)
              refine st_iload_n dX2_readMatrix_103 rfl ?_
              refine st_goto 111 dX2_readMatrix_104 (by decide) ?_
              refine st_ireturn dX2_readMatrix_111 rfl ⟨_, rfl, ?_⟩
              first
              | exact Or.inl ⟨_, (by rw [mtF_e]; rw [if_neg (by omega), if_neg (by rw [r1]; decide), if_neg (by omega), if_neg hc, if_pos (by omega)]), rfl, rdS_t hm8 (rdS_r _ _ _)⟩
              | (refine Or.inr ⟨(by rw [mtF_e]; rw [if_neg (by omega), if_neg (by rw [r1]; decide), if_neg (by omega), if_neg hc, if_neg (by omega)]), rfl, rdS_t hm8 (rdS_r _ _ _), ?_, ?_, h35k, r1, r2, fun j hj => ?_, fun i hi => ?_, fun q => absurd q hc⟩
                 · exact (rS_ne (by omega)).trans (show (fup (rwW 3 (fup (fup M 6 0 4 p) 2 19 1 (kb (lr tp ln (sk tp ln 0) (-1)))) 0 (rwp tp ln p 11 ((sk tp ln 0) + 1)).2.1 (vlp tp ln ((sk tp ln 0) + 1))) 2 19 0 ((((rwp tp ln p 11 ((sk tp ln 0) + 1)).2.1 + 1) / 2 : Nat) : Int)) 2 19 0 = _ from fup_eq)
                 · exact (rS_ne (by omega)).trans (show (fup (fup M 6 0 4 p) 2 19 1 (kb (lr tp ln (sk tp ln 0) (-1)))) 2 19 1 = _ from fup_eq)
                 · refine (rS_ne (by omega)).trans ?_
                   have hj : j < (rwp tp ln p 11 ((sk tp ln 0) + 1)).2.1 := hj
                   show (rwW 3 (fup (fup M 6 0 4 p) 2 19 1 (kb (lr tp ln (sk tp ln 0) (-1)))) 0 (rwp tp ln p 11 ((sk tp ln 0) + 1)).2.1 (vlp tp ln (sk tp ln 0 + 1))) 3 19 j = _
                   unfold rwW
                   rw [if_pos ⟨rfl, rfl, by omega, by omega⟩, Nat.sub_zero]
                 · refine (rS_ne (by omega)).trans ?_
                   have hi : i < (((rwp tp ln p 11 ((sk tp ln 0) + 1)).2.1 + 1) / 2) := hi
                   unfold clW
                   rw [if_pos ⟨rfl, rfl, by omega⟩, if_neg hc])
        · skip
          have hc : isC tp ln (rwp tp ln p 11 ((sk tp ln 0) + 1)).2.2 61 := (lr_eq (by decide)).mp h74
          refine st_aload_n dX2_readMatrix_77 rfl ?_
          refine st_dup dX2_readMatrix_78 rfl ?_
          refine st_get dX2_readMatrix_79 fl_X2_26 rfl rfl rfl ?_
          refine fAt_v (x' := (((rwp tp ln p 11 ((sk tp ln 0) + 1)).2.2 : Nat) : Int)) (rS_rp _ _ _) ?_
          refine st_iconst dX2_readMatrix_82 (by decide) ?_
          refine st_iadd dX2_readMatrix_83 (by omega) ?_
          refine st_put dX2_readMatrix_84 fl_X2_26 fp_X2_3.1 (Or.inl fp_X2_3.2) rfl rfl rfl ?_
          refine fAt_m (rS_p (clW (fup (rwW 3 (fup (fup M 6 0 4 p) 2 19 1 (kb (lr tp ln (sk tp ln 0) (-1)))) 0 (rwp tp ln p 11 ((sk tp ln 0) + 1)).2.1 (vlp tp ln ((sk tp ln 0) + 1))) 2 19 0 ((((rwp tp ln p 11 ((sk tp ln 0) + 1)).2.1 + 1) / 2 : Nat) : Int)) 6) _ ((rwp tp ln p 11 ((sk tp ln 0) + 1)).2.2 + 1) _) ?_
          refine st_aload_n dX2_readMatrix_87 rfl ?_
          refine st_callVi [] [] dX2_readMatrix_88 vl_X2_58 rfl rfl rfl rfl (Nat.le_of_ble_eq_true rfl) (by decide) (c_readSide (M := (clW (fup (rwW 3 (fup (fup M 6 0 4 p) 2 19 1 (kb (lr tp ln (sk tp ln 0) (-1)))) 0 (rwp tp ln p 11 ((sk tp ln 0) + 1)).2.1 (vlp tp ln ((sk tp ln 0) + 1))) 2 19 0 ((((rwp tp ln p 11 ((sk tp ln 0) + 1)).2.1 + 1) / 2 : Nat) : Int)) 6)) (tp := tp) (ln := ln) (p := p) (q := (rwp tp ln p 11 ((sk tp ln 0) + 1)).2.2 + 1) (v := v') (w := (((rwp tp ln p 11 ((sk tp ln 0) + 1)).2.1 + 1) / 2)) hn7 (by omega) ht7 hl (by show fup M 6 0 4 p 6 0 4 = p; exact fup_eq) (by omega) (by show (fup (rwW 3 (fup (fup M 6 0 4 p) 2 19 1 (kb (lr tp ln (sk tp ln 0) (-1)))) 0 (rwp tp ln p 11 ((sk tp ln 0) + 1)).2.1 (vlp tp ln ((sk tp ln 0) + 1))) 2 19 0 ((((rwp tp ln p 11 ((sk tp ln 0) + 1)).2.1 + 1) / 2 : Nat) : Int)) 2 19 0 = _; exact fup_eq)) (fun zs Mt qt => ?_)
          rcases qt with ⟨x, s1, rfl, s3⟩ | ⟨s1, ⟨s2, rfl, s3⟩ | ⟨s2, rfl, v2, s3⟩⟩
          · skip
            refine st_istore_n (ls' := [some (vr 6 0), some (vi p), some (vi (-20 - (x : Int)))]) dX2_readMatrix_91 (by decide) rfl rfl ?_
            refine st_iload_n dX2_readMatrix_92 rfl ?_
            refine st_if_ne 103 dX2_readMatrix_93 (by decide) (fun h93 => ?_) (fun h93 => ?_)
            · skip
              refine st_iload_n dX2_readMatrix_103 rfl ?_
              refine st_goto 111 dX2_readMatrix_104 (by decide) ?_
              refine st_ireturn dX2_readMatrix_111 rfl ⟨_, rfl, Or.inl ⟨x, (by rw [mtF_e]; rw [if_neg (by omega), if_neg (by rw [r1]; decide), if_neg (by omega), if_pos hc, if_pos (by rw [s1]; rfl)]; exact s1), rfl, rdS_t hm8 s3⟩⟩
            · skip
              exact absurd h93 (by omega)
          · skip
            refine st_istore_n (ls' := [some (vr 6 0), some (vi p), some (vi (-20 - ((rwp tp ln p (((rwp tp ln p 11 ((sk tp ln 0) + 1)).2.1 + 1) / 2) ((rwp tp ln p 11 ((sk tp ln 0) + 1)).2.2 + 1)).2.2 : Int)))]) dX2_readMatrix_91 (by decide) rfl rfl ?_
            refine st_iload_n dX2_readMatrix_92 rfl ?_
            refine st_if_ne 103 dX2_readMatrix_93 (by decide) (fun h93 => ?_) (fun h93 => ?_)
            · skip
              refine st_iload_n dX2_readMatrix_103 rfl ?_
              refine st_goto 111 dX2_readMatrix_104 (by decide) ?_
              refine st_ireturn dX2_readMatrix_111 rfl ⟨_, rfl, Or.inl ⟨_, (by rw [mtF_e]; rw [if_neg (by omega), if_neg (by rw [r1]; decide), if_neg (by omega), if_pos hc, if_neg (by rw [s1]; decide), if_pos s2]), rfl, rdS_t hm8 s3⟩⟩
            · skip
              exact absurd h93 (by omega)
          · skip
            subst Mt
            obtain ⟨wm, hwm⟩ : ∃ m, (((rwp tp ln p 11 ((sk tp ln 0) + 1)).2.1 + 1) / 2) = m + 1 := ⟨(((rwp tp ln p 11 ((sk tp ln 0) + 1)).2.1 + 1) / 2) - 1, by omega⟩
            have hb2 : (rwp tp ln p (((rwp tp ln p 11 ((sk tp ln 0) + 1)).2.1 + 1) / 2) ((rwp tp ln p 11 ((sk tp ln 0) + 1)).2.2 + 1)).2.2 ≤ ln := by rw [hwm] at s1 ⊢; exact (rwp_b (tp := tp) (p := p) wm ((rwp tp ln p 11 ((sk tp ln 0) + 1)).2.2 + 1) (by omega) s1).2.2.1
            have ht8 : (rwW 4 (clW (fup (rwW 3 (fup (fup M 6 0 4 p) 2 19 1 (kb (lr tp ln (sk tp ln 0) (-1)))) 0 (rwp tp ln p 11 ((sk tp ln 0) + 1)).2.1 (vlp tp ln ((sk tp ln 0) + 1))) 2 19 0 ((((rwp tp ln p 11 ((sk tp ln 0) + 1)).2.1 + 1) / 2 : Nat) : Int)) 6) 0 (((rwp tp ln p 11 ((sk tp ln 0) + 1)).2.1 + 1) / 2) (vlp tp ln ((rwp tp ln p 11 ((sk tp ln 0) + 1)).2.2 + 1))) 7 0 = tp := (funext fun b => (rdS_w (by omega)) 7 0 b (by omega) (by omega)).trans ht7
            refine st_istore_n (ls' := [some (vr 6 0), some (vi p), some (vi 0)]) dX2_readMatrix_91 (by decide) rfl rfl ?_
            refine st_iload_n dX2_readMatrix_92 rfl ?_
            refine st_if_ne 103 dX2_readMatrix_93 (by decide) (fun h93 => ?_) (fun h93 => ?_)
            · skip
              exact absurd rfl h93
            · skip
              refine st_aload_n dX2_readMatrix_96 rfl ?_
              refine st_callVi [] [] dX2_readMatrix_97 vl_X2_38 rfl rfl rfl rfl (Nat.le_of_ble_eq_true rfl) (by decide) (c_letterHere2 (q := (rwp tp ln p (((rwp tp ln p 11 ((sk tp ln 0) + 1)).2.1 + 1) / 2) ((rwp tp ln p 11 ((sk tp ln 0) + 1)).2.2 + 1)).2.2) (v := v2) ht8 hl hn7) (fun zn Mn qn => ?_)
              obtain ⟨rfl, h0n⟩ := qn
              subst Mn
              refine st_if_ge 107 dX2_readMatrix_100 (by decide) (fun h100 => ?_) (fun h100 => ?_)
              · skip
                have h100 : (rwp tp ln p (((rwp tp ln p 11 ((sk tp ln 0) + 1)).2.1 + 1) / 2) ((rwp tp ln p 11 ((sk tp ln 0) + 1)).2.2 + 1)).2.2 < ln := Classical.byContradiction fun q => absurd ((lr_neg hT).mpr q) (by omega)
                refine st_aload_n dX2_readMatrix_107 rfl ?_
                refine st_callVi [] [] dX2_readMatrix_108 vl_X2_49 rfl rfl rfl rfl (Nat.le_of_ble_eq_true rfl) (by decide) (c_faultHere (M := (rwW 4 (clW (fup (rwW 3 (fup (fup M 6 0 4 p) 2 19 1 (kb (lr tp ln (sk tp ln 0) (-1)))) 0 (rwp tp ln p 11 ((sk tp ln 0) + 1)).2.1 (vlp tp ln ((sk tp ln 0) + 1))) 2 19 0 ((((rwp tp ln p 11 ((sk tp ln 0) + 1)).2.1 + 1) / 2 : Nat) : Int)) 6) 0 (((rwp tp ln p 11 ((sk tp ln 0) + 1)).2.1 + 1) / 2) (vlp tp ln ((rwp tp ln p 11 ((sk tp ln 0) + 1)).2.2 + 1)))) (q := (rwp tp ln p (((rwp tp ln p 11 ((sk tp ln 0) + 1)).2.1 + 1) / 2) ((rwp tp ln p 11 ((sk tp ln 0) + 1)).2.2 + 1)).2.2) (v := v2) (by omega)) (fun zf Mf qf => ?_)
                obtain ⟨rfl, h0f⟩ := qf
                subst Mf
                refine st_ireturn dX2_readMatrix_111 rfl ⟨_, rfl, ?_⟩
                first
                | exact Or.inl ⟨_, (by rw [mtF_e]; rw [if_neg (by omega), if_neg (by rw [r1]; decide), if_neg (by omega), if_pos hc, if_neg (by rw [s1]; decide), if_neg (fun q => q s2), if_pos (by omega)]), rfl, rdS_t (rdS_t hm8 (rdS_w (by omega))) (rdS_r _ _ _)⟩
                | (refine Or.inr ⟨(by rw [mtF_e]; rw [if_neg (by omega), if_neg (by rw [r1]; decide), if_neg (by omega), if_pos hc, if_neg (by rw [s1]; decide), if_neg (fun q => q s2), if_neg (by omega)]), rfl, rdS_t (rdS_t hm8 (rdS_w (by omega))) (rdS_r _ _ _), ?_, ?_, h35k, r1, r2, fun j hj => ?_, fun i hi => ?_, fun _ => ⟨s1, s2⟩⟩
                   · exact (rS_ne (by omega)).trans (show (fup (rwW 3 (fup (fup M 6 0 4 p) 2 19 1 (kb (lr tp ln (sk tp ln 0) (-1)))) 0 (rwp tp ln p 11 ((sk tp ln 0) + 1)).2.1 (vlp tp ln ((sk tp ln 0) + 1))) 2 19 0 ((((rwp tp ln p 11 ((sk tp ln 0) + 1)).2.1 + 1) / 2 : Nat) : Int)) 2 19 0 = _ from fup_eq)
                   · exact (rS_ne (by omega)).trans (show (fup (fup M 6 0 4 p) 2 19 1 (kb (lr tp ln (sk tp ln 0) (-1)))) 2 19 1 = _ from fup_eq)
                   · refine (rS_ne (by omega)).trans ?_
                     have hj : j < (rwp tp ln p 11 ((sk tp ln 0) + 1)).2.1 := hj
                     show (rwW 3 (fup (fup M 6 0 4 p) 2 19 1 (kb (lr tp ln (sk tp ln 0) (-1)))) 0 (rwp tp ln p 11 ((sk tp ln 0) + 1)).2.1 (vlp tp ln (sk tp ln 0 + 1))) 3 19 j = _
                     unfold rwW
                     rw [if_pos ⟨rfl, rfl, by omega, by omega⟩, Nat.sub_zero]
                   · refine (rS_ne (by omega)).trans ?_
                     have hi : i < (((rwp tp ln p 11 ((sk tp ln 0) + 1)).2.1 + 1) / 2) := hi
                     unfold rwW
                     rw [if_pos ⟨rfl, rfl, by omega, by omega⟩, Nat.sub_zero, if_pos hc])
              · skip
                have h100 : ¬ (rwp tp ln p (((rwp tp ln p 11 ((sk tp ln 0) + 1)).2.1 + 1) / 2) ((rwp tp ln p 11 ((sk tp ln 0) + 1)).2.2 + 1)).2.2 < ln := (lr_neg hT).mp (by omega)
                refine st_iload_n dX2_readMatrix_103 rfl ?_
                refine st_goto 111 dX2_readMatrix_104 (by decide) ?_
                refine st_ireturn dX2_readMatrix_111 rfl ⟨_, rfl, ?_⟩
                first
                | exact Or.inl ⟨_, (by rw [mtF_e]; rw [if_neg (by omega), if_neg (by rw [r1]; decide), if_neg (by omega), if_pos hc, if_neg (by rw [s1]; decide), if_neg (fun q => q s2), if_pos (by omega)]), rfl, rdS_t (rdS_t hm8 (rdS_w (by omega))) (rdS_r _ _ _)⟩
                | (refine Or.inr ⟨(by rw [mtF_e]; rw [if_neg (by omega), if_neg (by rw [r1]; decide), if_neg (by omega), if_pos hc, if_neg (by rw [s1]; decide), if_neg (fun q => q s2), if_neg (by omega)]), rfl, rdS_t (rdS_t hm8 (rdS_w (by omega))) (rdS_r _ _ _), ?_, ?_, h35k, r1, r2, fun j hj => ?_, fun i hi => ?_, fun _ => ⟨s1, s2⟩⟩
                   · exact (rS_ne (by omega)).trans (show (fup (rwW 3 (fup (fup M 6 0 4 p) 2 19 1 (kb (lr tp ln (sk tp ln 0) (-1)))) 0 (rwp tp ln p 11 ((sk tp ln 0) + 1)).2.1 (vlp tp ln ((sk tp ln 0) + 1))) 2 19 0 ((((rwp tp ln p 11 ((sk tp ln 0) + 1)).2.1 + 1) / 2 : Nat) : Int)) 2 19 0 = _ from fup_eq)
                   · exact (rS_ne (by omega)).trans (show (fup (fup M 6 0 4 p) 2 19 1 (kb (lr tp ln (sk tp ln 0) (-1)))) 2 19 1 = _ from fup_eq)
                   · refine (rS_ne (by omega)).trans ?_
                     have hj : j < (rwp tp ln p 11 ((sk tp ln 0) + 1)).2.1 := hj
                     show (rwW 3 (fup (fup M 6 0 4 p) 2 19 1 (kb (lr tp ln (sk tp ln 0) (-1)))) 0 (rwp tp ln p 11 ((sk tp ln 0) + 1)).2.1 (vlp tp ln (sk tp ln 0 + 1))) 3 19 j = _
                     unfold rwW
                     rw [if_pos ⟨rfl, rfl, by omega, by omega⟩, Nat.sub_zero]
                   · refine (rS_ne (by omega)).trans ?_
                     have hi : i < (((rwp tp ln p 11 ((sk tp ln 0) + 1)).2.1 + 1) / 2) := hi
                     unfold rwW
                     rw [if_pos ⟨rfl, rfl, by omega, by omega⟩, Nat.sub_zero, if_pos hc])
      · skip
        exact absurd rfl h59
  · skip
    have h35 : (kb (lr tp ln (sk tp ln 0) (-1))) < 0 := by omega
    refine st_aload_n dX2_readMatrix_38 rfl ?_
    refine st_callVi [] [] dX2_readMatrix_39 vl_X2_49 rfl rfl rfl rfl (Nat.le_of_ble_eq_true rfl) (by decide) (c_faultHere (M := (fup (fup M 6 0 4 p) 2 19 1 (kb (lr tp ln (sk tp ln 0) (-1))))) (q := (sk tp ln 0)) (v := ((fup M 6 0 4 p) 6 0 5)) (by omega)) (fun zf Mf qf => ?_)
    obtain ⟨rfl, h0f⟩ := qf
    subst Mf
    refine st_ireturn dX2_readMatrix_42 rfl ⟨_, rfl, Or.inl ⟨_, (by rw [mtF_e]; rw [if_pos h35]), rfl, rdS_t (rdS_t (rd4 M p) (rdS_u (by omega))) (rdS_r _ _ _)⟩⟩
set_option maxHeartbeats 4000000 in
set_option maxRecDepth 100000 in
theorem c_matrix {g : fG} {M : fM} {tp : Nat → Int} {ln : Nat} {p : Int} (hn7 : ln ≤ 70) (ht : M 7 0 = tp) (hl : M 6 0 0 = (ln : Int)) (hT : ∀ b, b < ln → 0 ≤ tp b) (hpM : M 1 0 0 = p) :
    fCi g Y_X6_matrix [vr 0 0] M (fun z M' => (∃ x, mtF tp ln p = some x ∧ z = -20 - (x : Int) ∧ ∃ M1, rdS M M1 ∧ M' = fup M1 6 0 0 0) ∨ (mtF tp ln p = none ∧ z = ((tW tp ln p : Nat) : Int) ∧ ∃ M1, MxR M M1 tp ln p ∧ M' = fup (fup (stk (fup M1 6 0 0 0) 0 19) 2 0 2 (M 2 0 2)) 1 0 1 0)) := by
  refine fCi_of _ [some (vr 0 0), none, none] (by decide) (Nat.le_of_ble_eq_true rfl) rfl (fun h => h) ?_
  refine st_aload_n dX6_matrix_0 rfl ?_
  refine st_getr (i' := 0) dX6_matrix_1 fl_X6_26 rfl rfl rfl (fun _ => by decide) ?_
  refine st_aload_n dX6_matrix_4 rfl ?_
  refine st_getr (i' := 0) dX6_matrix_5 fl_X6_12 rfl rfl rfl (fun _ => by decide) ?_
  refine st_get dX6_matrix_8 fl_X6_72 rfl rfl rfl ?_
  refine fAt_v (x' := p) hpM ?_
  refine st_callVi [vi p] [] dX6_matrix_11 vl_X6_92 rfl rfl rfl rfl (Nat.le_of_ble_eq_true rfl) (by decide) (c_readMatrix hn7 ht hl hT) (fun z M1 q1 => ?_)
  rcases q1 with ⟨x, h1, rfl, h2⟩ | ⟨h1, rfl, h2⟩
  · skip
    refine st_istore_n (ls' := [some (vr 0 0), some (vi (-20 - (x : Int))), none]) dX6_matrix_14 (by decide) rfl rfl ?_
    refine st_aload_n dX6_matrix_15 rfl ?_
    refine st_getr (i' := 0) dX6_matrix_16 fl_X6_26 rfl rfl rfl (fun _ => by decide) ?_
    refine st_iconst dX6_matrix_19 (by decide) ?_
    refine st_put dX6_matrix_20 fl_X6_89 fp_X2_0.1 (Or.inl fp_X2_0.2) rfl rfl rfl ?_
    refine st_iload_n dX6_matrix_23 rfl ?_
    refine st_if_eq 29 dX6_matrix_24 (by decide) (fun h24 => ?_) (fun h24 => ?_)
    · skip
      exact absurd h24 (by omega)
    · skip
      refine st_iload_n dX6_matrix_27 rfl ?_
      refine st_ireturn dX6_matrix_28 rfl ⟨_, rfl, Or.inl ⟨x, h1, rfl, M1, h2, rfl⟩⟩
  · skip
    refine st_istore_n (ls' := [some (vr 0 0), some (vi 0), none]) dX6_matrix_14 (by decide) rfl rfl ?_
    refine st_aload_n dX6_matrix_15 rfl ?_
    refine st_getr (i' := 0) dX6_matrix_16 fl_X6_26 rfl rfl rfl (fun _ => by decide) ?_
    refine st_iconst dX6_matrix_19 (by decide) ?_
    refine st_put dX6_matrix_20 fl_X6_89 fp_X2_0.1 (Or.inl fp_X2_0.2) rfl rfl rfl ?_
    refine st_iload_n dX6_matrix_23 rfl ?_
    refine st_if_eq 29 dX6_matrix_24 (by decide) (fun h24 => ?_) (fun h24 => ?_)
    · skip
      refine st_aload_n dX6_matrix_29 rfl ?_
      refine st_getr (i' := 0) dX6_matrix_30 fl_X6_12 rfl rfl rfl (fun _ => by decide) ?_
      refine st_getr (i' := 0) dX6_matrix_33 fl_X6_76 rfl rfl rfl (fun _ => by decide) ?_
      refine st_get dX6_matrix_36 fl_X6_96 rfl rfl rfl ?_
      refine fAt_v (x' := M 2 0 2) ((fup_ne (by omega)).trans (h2.1 2 0 2 (by omega) (by omega))) ?_
      refine st_istore_n (ls' := [some (vr 0 0), some (vi 0), some (vi (M 2 0 2))]) dX6_matrix_39 (by decide) rfl rfl ?_
      refine st_aload_n dX6_matrix_40 rfl ?_
      refine st_getr (i' := 0) dX6_matrix_41 fl_X6_12 rfl rfl rfl (fun _ => by decide) ?_
      refine st_getr (i' := 0) dX6_matrix_44 fl_X6_76 rfl rfl rfl (fun _ => by decide) ?_
      refine st_aload_n dX6_matrix_47 rfl ?_
      refine st_getr (i' := 0) dX6_matrix_48 fl_X6_26 rfl rfl rfl (fun _ => by decide) ?_
      refine st_getr (i' := 19) dX6_matrix_51 fl_X6_99 rfl rfl rfl (fun _ => by decide) ?_
      refine st_callVv [vr 2 19] [] dX6_matrix_54 vl_X6_102 rfl rfl rfl rfl (Nat.le_of_ble_eq_true rfl) (by decide) (c_takeFrom (by decide)) (fun Ma qa => ?_)
      subst qa
      refine st_aload_n dX6_matrix_57 rfl ?_
      refine st_getr (i' := 0) dX6_matrix_58 fl_X6_12 rfl rfl rfl (fun _ => by decide) ?_
      refine st_getr (i' := 0) dX6_matrix_61 fl_X6_76 rfl rfl rfl (fun _ => by decide) ?_
      refine st_iload_n dX6_matrix_64 rfl ?_
      refine st_put dX6_matrix_65 fl_X6_96 fp_X3_2.1 (Or.inl fp_X3_2.2) rfl rfl rfl ?_
      refine st_aload_n dX6_matrix_68 rfl ?_
      refine st_getr (i' := 0) dX6_matrix_69 fl_X6_12 rfl rfl rfl (fun _ => by decide) ?_
      refine st_callVv [] [] dX6_matrix_72 vl_X6_83 rfl rfl rfl rfl (Nat.le_of_ble_eq_true rfl) (by decide) (c_forget) (fun Mb qb => ?_)
      subst qb
      refine st_aload_n dX6_matrix_75 rfl ?_
      refine st_getr (i' := 0) dX6_matrix_76 fl_X6_12 rfl rfl rfl (fun _ => by decide) ?_
      refine st_getr (i' := 0) dX6_matrix_79 fl_X6_76 rfl rfl rfl (fun _ => by decide) ?_
      refine st_get dX6_matrix_82 fl_X6_106 rfl rfl rfl ?_
      refine fAt_v (x' := ((tW tp ln p : Nat) : Int)) (by rw [fup_ne (by omega), fup_ne (by omega)]; unfold stk; rw [if_pos (by omega), fup_ne (by omega)]; exact h2.2.1) ?_
      refine st_ireturn dX6_matrix_85 rfl ⟨_, rfl, Or.inr ⟨h1, rfl, M1, h2, rfl⟩⟩
    · skip
      exact absurd rfl h24
