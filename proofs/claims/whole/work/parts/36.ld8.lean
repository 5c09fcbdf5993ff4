/-! ===== what comes of an X ===== -/
def rtS (p : Int) (w : Nat) (E : Nat → Nat → Int) (x : Nat → Int) (r : Nat) : Int := (sm w (fun c => E r c * x c)) % p
set_option maxHeartbeats 4000000 in
set_option maxRecDepth 100000 in
theorem rowTimesGiven_l {g : fG} {M : fM} {w : Nat} {p : Int} (hx : xOk M w p) {kd : Int} {r : Nat} (hkd : 0 ≤ kd ∧ kd ≤ 4) (hr : r < w) (hgv : ∀ c, c < w → 0 ≤ M 17 0 c ∧ M 17 0 c < p) :
    ∀ (n c : Nat), c + n = w → fAt g Y_X6_rowTimesGiven 5 [some (vr 0 0), some (vi kd), some (vi (r : Int)), some (vi (sm c (fun c => ent p w kd (M 3 0) r c * M 17 0 c))), some (vi (c : Int))] [] M (fI (fun z M' => z = rtS p w (ent p w kd (M 3 0)) (M 17 0) r ∧ M' = M)) := by
  have hw1 := hx.2.2.1.2.1
  have hp2 := hx.2.1.1
  intro n
  induction n with
  | zero =>
    intro c hn
    refine st_iload dX6_rowTimesGiven_5 rfl ?_
    refine st_aload_n dX6_rowTimesGiven_7 rfl ?_
    refine st_getr (i' := 0) dX6_rowTimesGiven_8 fl_X6_12 rfl rfl rfl (fun _ => by decide) ?_
    refine st_getr (i' := 0) dX6_rowTimesGiven_11 fl_X6_76 rfl rfl rfl (fun _ => by decide) ?_
    refine st_get dX6_rowTimesGiven_14 fl_X6_106 rfl rfl rfl ?_
    refine fAt_v (x' := (w : Int)) hx.2.2.1.1 ?_
    refine st_icmp_ge 58 dX6_rowTimesGiven_17 (by decide) (fun h17 => ?_) (fun h17 => ?_)
    · skip
      refine st_iload_n dX6_rowTimesGiven_58 rfl ?_
      refine st_aload_n dX6_rowTimesGiven_59 rfl ?_
      refine st_getr (i' := 0) dX6_rowTimesGiven_60 fl_X6_12 rfl rfl rfl (fun _ => by decide) ?_
      refine st_get dX6_rowTimesGiven_63 fl_X6_72 rfl rfl rfl ?_
      refine fAt_v (x' := p) hx.1 ?_
      refine st_irem dX6_rowTimesGiven_66 (by have hb1 := sm_b (f := fun c => ent p w kd (M 3 0) r c * M 17 0 c) (n := c) (fun i hi => mulb (a := 97) (b := 97) (ent_rng (by omega) hx.2.2.1.2.2.2.1 hr (by omega)).1 (hgv i (by omega)).1 (by have := (ent_rng (kind := kd) (p := p) (by omega) hx.2.2.1.2.2.2.1 hr (show i < w by omega)).2; omega) (by have := (hgv i (by omega)).2; omega)); exact hb1.1) (by omega) ?_
      refine st_ireturn dX6_rowTimesGiven_67 rfl ⟨_, rfl, ⟨?_, rfl⟩⟩
      have e : c = w := by omega
      rw [e]; rfl
    · skip
      exact absurd h17 (by omega)
  | succ n ih =>
    intro c hn
    refine st_iload dX6_rowTimesGiven_5 rfl ?_
    refine st_aload_n dX6_rowTimesGiven_7 rfl ?_
    refine st_getr (i' := 0) dX6_rowTimesGiven_8 fl_X6_12 rfl rfl rfl (fun _ => by decide) ?_
    refine st_getr (i' := 0) dX6_rowTimesGiven_11 fl_X6_76 rfl rfl rfl (fun _ => by decide) ?_
    refine st_get dX6_rowTimesGiven_14 fl_X6_106 rfl rfl rfl ?_
    refine fAt_v (x' := (w : Int)) hx.2.2.1.1 ?_
    refine st_icmp_ge 58 dX6_rowTimesGiven_17 (by decide) (fun h17 => ?_) (fun h17 => ?_)
    · skip
      exact absurd h17 (by omega)
    · skip
      have hb1 := sm_b (f := fun c => ent p w kd (M 3 0) r c * M 17 0 c) (n := c) (fun i hi => mulb (a := 97) (b := 97) (ent_rng (by omega) hx.2.2.1.2.2.2.1 hr (by omega)).1 (hgv i (by omega)).1 (by have := (ent_rng (kind := kd) (p := p) (by omega) hx.2.2.1.2.2.2.1 hr (show i < w by omega)).2; omega) (by have := (hgv i (by omega)).2; omega))
      have hb2 := mulb (x := ent p w kd (M 3 0) r c) (y := M 17 0 c) (a := 97) (b := 97) (ent_rng (by omega) hx.2.2.1.2.2.2.1 hr (by omega)).1 (hgv c (by omega)).1 (by have := (ent_rng (kind := kd) (p := p) (by omega) hx.2.2.1.2.2.2.1 hr (show c < w by omega)).2; omega) (by have := (hgv c (by omega)).2; omega)
      refine st_iload_n dX6_rowTimesGiven_20 rfl ?_
      refine st_aload_n dX6_rowTimesGiven_21 rfl ?_
      refine st_getr (i' := 0) dX6_rowTimesGiven_22 fl_X6_12 rfl rfl rfl (fun _ => by decide) ?_
      refine st_getr (i' := 0) dX6_rowTimesGiven_25 fl_X6_76 rfl rfl rfl (fun _ => by decide) ?_
      refine st_iload_n dX6_rowTimesGiven_28 rfl ?_
      refine st_iload_n dX6_rowTimesGiven_29 rfl ?_
      refine st_iload dX6_rowTimesGiven_30 rfl ?_
      refine st_aload_n dX6_rowTimesGiven_32 rfl ?_
      refine st_getr (i' := 0) dX6_rowTimesGiven_33 fl_X6_12 rfl rfl rfl (fun _ => by decide) ?_
      refine st_get dX6_rowTimesGiven_36 fl_X6_72 rfl rfl rfl ?_
      refine fAt_v (x' := p) hx.1 ?_
      refine st_callVi [vi kd, vi (r : Int), vi (c : Int), vi p] [vi (sm c (fun c => ent p w kd (M 3 0) r c * M 17 0 c))] dX6_rowTimesGiven_39 vl_X6_124 rfl rfl rfl rfl (Nat.le_of_ble_eq_true rfl) (by decide) (c_cellAt hx.2.2.1.1 hx.2.2.1.2.1 hr (by omega) (kd5 hkd) hx.2.1.1 hx.2.2.1.2.2.2.1) (fun z Mc qc => ?_)
      obtain ⟨rfl, q⟩ := qc
      subst Mc
      refine st_aload_n dX6_rowTimesGiven_42 rfl ?_
      refine st_getr (i' := 0) dX6_rowTimesGiven_43 fl_X6_55 rfl rfl rfl (fun _ => by decide) ?_
      refine st_iload dX6_rowTimesGiven_46 rfl ?_
      refine st_iald (j := c) dX6_rowTimesGiven_48 rfl rfl rfl rfl (by omega) ?_
      refine st_imul dX6_rowTimesGiven_49 (by omega) ?_
      refine st_iadd dX6_rowTimesGiven_50 (by omega) ?_
      refine st_istore_n (ls' := [some (vr 0 0), some (vi kd), some (vi (r : Int)), some (vi ((sm c (fun c => ent p w kd (M 3 0) r c * M 17 0 c)) + ((ent p w kd (M 3 0) r c) * (M 17 0 c)))), some (vi (c : Int))]) dX6_rowTimesGiven_51 (by decide) rfl rfl ?_
      refine st_iinc (ls' := [some (vr 0 0), some (vi kd), some (vi (r : Int)), some (vi ((sm c (fun c => ent p w kd (M 3 0) r c * M 17 0 c)) + ((ent p w kd (M 3 0) r c) * (M 17 0 c)))), some (vi ((c : Int) + 1))]) dX6_rowTimesGiven_52 rfl (by omega) (by decide) rfl rfl ?_
      refine st_goto 5 dX6_rowTimesGiven_55 (by decide) ?_
      exact ih (c + 1) (by omega)
set_option maxHeartbeats 4000000 in
set_option maxRecDepth 100000 in
theorem c_rowTimesGiven {g : fG} {M : fM} {w : Nat} {p : Int} (hx : xOk M w p) {kd : Int} {r : Nat} (hkd : 0 ≤ kd ∧ kd ≤ 4) (hr : r < w) (hgv : ∀ c, c < w → 0 ≤ M 17 0 c ∧ M 17 0 c < p) :
    fCi g Y_X6_rowTimesGiven [vr 0 0, vi kd, vi (r : Int)] M (fun z M' => z = rtS p w (ent p w kd (M 3 0)) (M 17 0) r ∧ M' = M) := by
  have hw1 := hx.2.2.1.2.1
  have hp2 := hx.2.1.1
  refine fCi_of _ [some (vr 0 0), some (vi kd), some (vi (r : Int)), none, none] (by decide) (Nat.le_of_ble_eq_true rfl) rfl (fun h => h) ?_
  refine st_iconst dX6_rowTimesGiven_0 (by decide) ?_
  refine st_istore_n (ls' := [some (vr 0 0), some (vi kd), some (vi (r : Int)), some (vi 0), none]) dX6_rowTimesGiven_1 (by decide) rfl rfl ?_
  refine st_iconst dX6_rowTimesGiven_2 (by decide) ?_
  refine st_istore (ls' := [some (vr 0 0), some (vi kd), some (vi (r : Int)), some (vi 0), some (vi 0)]) dX6_rowTimesGiven_3 (by decide) rfl rfl ?_
  exact rowTimesGiven_l hx hkd hr hgv w 0 (by omega)
def alE (h t : Nat → Int) : Nat → Int
  | 0 => 1
  | n + 1 => if alE h t n = 0 then 0 else if h n = t n then 1 else 0
theorem alE_1 {h t : Nat → Int} : ∀ {n : Nat}, (∀ q, q < n → h q = t q) → alE h t n = 1
  | 0, _ => rfl
  | n + 1, e => by
    unfold alE
    rw [alE_1 (fun q hq => e q (by omega)), if_neg (by decide), if_pos (e n (by omega))]
theorem alE_0 {h t : Nat → Int} {q : Nat} (e : h q ≠ t q) : ∀ {n : Nat}, q < n → alE h t n = 0
  | 0, hn => absurd hn (by omega)
  | n + 1, hn => by
    unfold alE
    by_cases z : q = n
    · subst z
      rw [if_neg e]
      split <;> rfl
    · rw [if_pos (alE_0 e (n := n) (by omega))]
theorem alE_c {h h' t t' : Nat → Int} : ∀ {n : Nat}, (∀ q, q < n → h q = h' q ∧ t q = t' q) → alE h t n = alE h' t' n
  | 0, _ => rfl
  | n + 1, e => by
    unfold alE
    rw [alE_c (fun q hq => e q (by omega)), (e n (by omega)).1, (e n (by omega)).2]
theorem alE_z (h t : Nat → Int) : ∀ n : Nat, alE h t n = 0 ∨ alE h t n = 1
  | 0 => Or.inr rfl
  | n + 1 => by
    unfold alE
    split
    · exact Or.inl rfl
    · split
      · exact Or.inr rfl
      · exact Or.inl rfl
set_option maxHeartbeats 4000000 in
set_option maxRecDepth 100000 in
theorem comesBy_l {g : fG} {M : fM} {w : Nat} {p : Int} (hx : xOk M w p) {kd : Int} (hkd : 0 ≤ kd ∧ kd ≤ 4) (hgv : ∀ c, c < w → 0 ≤ M 17 0 c ∧ M 17 0 c < p) :
    ∀ (n r : Nat), r + n = w → (∀ q, q < r → rtS p w (ent p w kd (M 3 0)) (M 17 0) q = M 18 0 q) → fAt g Y_X6_comesBy 2 [some (vr 0 0), some (vi kd), some (vi (r : Int))] [] M (fI (fun z M' => z = alE (rtS p w (ent p w kd (M 3 0)) (M 17 0)) (M 18 0) w ∧ M' = M)) := by
  have hw1 := hx.2.2.1.2.1
  have hp2 := hx.2.1.1
  intro n
  induction n with
  | zero =>
    intro r hn h0
    refine st_iload_n dX6_comesBy_2 rfl ?_
    refine st_aload_n dX6_comesBy_3 rfl ?_
    refine st_getr (i' := 0) dX6_comesBy_4 fl_X6_12 rfl rfl rfl (fun _ => by decide) ?_
    refine st_getr (i' := 0) dX6_comesBy_7 fl_X6_76 rfl rfl rfl (fun _ => by decide) ?_
    refine st_get dX6_comesBy_10 fl_X6_106 rfl rfl rfl ?_
    refine fAt_v (x' := (w : Int)) hx.2.2.1.1 ?_
    refine st_icmp_ge 39 dX6_comesBy_13 (by decide) (fun h13 => ?_) (fun h13 => ?_)
    · skip
      refine st_iconst dX6_comesBy_39 (by decide) ?_
      refine st_zreturn dX6_comesBy_40 rfl (by omega) ⟨_, rfl, ⟨(alE_1 (fun q hq => h0 q (by omega))).symm, rfl⟩⟩
    · skip
      exact absurd h13 (by omega)
  | succ n ih =>
    intro r hn h0
    refine st_iload_n dX6_comesBy_2 rfl ?_
    refine st_aload_n dX6_comesBy_3 rfl ?_
    refine st_getr (i' := 0) dX6_comesBy_4 fl_X6_12 rfl rfl rfl (fun _ => by decide) ?_
    refine st_getr (i' := 0) dX6_comesBy_7 fl_X6_76 rfl rfl rfl (fun _ => by decide) ?_
    refine st_get dX6_comesBy_10 fl_X6_106 rfl rfl rfl ?_
    refine fAt_v (x' := (w : Int)) hx.2.2.1.1 ?_
    refine st_icmp_ge 39 dX6_comesBy_13 (by decide) (fun h13 => ?_) (fun h13 => ?_)
    · skip
      exact absurd h13 (by omega)
    · skip
      refine st_aload_n dX6_comesBy_16 rfl ?_
      refine st_iload_n dX6_comesBy_17 rfl ?_
      refine st_iload_n dX6_comesBy_18 rfl ?_
      refine st_callVi [vi kd, vi (r : Int)] [] dX6_comesBy_19 vl_X6_250 rfl rfl rfl rfl (Nat.le_of_ble_eq_true rfl) (by decide) (c_rowTimesGiven hx hkd (by omega) hgv) (fun z Mc qc => ?_)
      obtain ⟨rfl, q⟩ := qc
      subst Mc
      refine st_aload_n dX6_comesBy_22 rfl ?_
      refine st_getr (i' := 0) dX6_comesBy_23 fl_X6_58 rfl rfl rfl (fun _ => by decide) ?_
      refine st_iload_n dX6_comesBy_26 rfl ?_
      refine st_iald (j := r) dX6_comesBy_27 rfl rfl rfl rfl (by omega) ?_
      refine st_icmp_eq 33 dX6_comesBy_28 (by decide) (fun h28 => ?_) (fun h28 => ?_)
      · skip
        refine st_iinc (ls' := [some (vr 0 0), some (vi kd), some (vi ((r : Int) + 1))]) dX6_comesBy_33 rfl (by omega) (by decide) rfl rfl ?_
        refine st_goto 2 dX6_comesBy_36 (by decide) ?_
        exact ih (r + 1) (by omega) (fun q hq => by
          by_cases e : q = r
          · rw [e]; exact h28
          · exact h0 q (by omega))
      · skip
        refine st_iconst dX6_comesBy_31 (by decide) ?_
        refine st_zreturn dX6_comesBy_32 rfl (by omega) ⟨_, rfl, ⟨(alE_0 h28 (by omega)).symm, rfl⟩⟩
set_option maxHeartbeats 4000000 in
set_option maxRecDepth 100000 in
theorem c_comesBy {g : fG} {M : fM} {w : Nat} {p : Int} (hx : xOk M w p) {kd : Int} (hkd : 0 ≤ kd ∧ kd ≤ 4) (hgv : ∀ c, c < w → 0 ≤ M 17 0 c ∧ M 17 0 c < p) :
    fCi g Y_X6_comesBy [vr 0 0, vi kd] M (fun z M' => z = alE (rtS p w (ent p w kd (M 3 0)) (M 17 0)) (M 18 0) w ∧ M' = M) := by
  have hw1 := hx.2.2.1.2.1
  have hp2 := hx.2.1.1
  refine fCi_of _ [some (vr 0 0), some (vi kd), none] (by decide) (Nat.le_of_ble_eq_true rfl) rfl (fun h => h) ?_
  refine st_iconst dX6_comesBy_0 (by decide) ?_
  refine st_istore_n (ls' := [some (vr 0 0), some (vi kd), some (vi 0)]) dX6_comesBy_1 (by decide) rfl rfl ?_
  exact comesBy_l hx hkd hgv w 0 (by omega) (fun q hq => absurd hq (by omega))
set_option maxHeartbeats 4000000 in
set_option maxRecDepth 100000 in
theorem readNumbers_l17 {g : fG} {M : fM} {w s i : Nat} {p : Int} (hp : M 1 0 0 = p) (hp2 : 2 ≤ p ∧ p ≤ 97) (hw : M 2 0 0 = (w : Int)) (hw1 : 1 ≤ w ∧ w ≤ 6) (hi : i + w ≤ 24) :
    ∀ (n c : Nat) (Nn : fM), c + n = w → (∀ q, q < c → 0 ≤ M 21 s (i + q) ∧ M 21 s (i + q) < p) → (∀ q, q < c → Nn 17 0 q = M 21 s (i + q)) → (∀ k a b, k ≠ 17 → Nn k a b = M k a b) → fAt g Y_X6_readNumbers 3 [some (vr 0 0), some (vr 20 s), some (vi (i : Int)), some (vr 17 0), some (vi (c : Int))] [] Nn (fI (fun z M' => ((z = 1 ∧ (∀ c, c < w → 0 ≤ M 21 s (i + c) ∧ M 21 s (i + c) < p) ∧ (∀ c, c < w → M' 17 0 c = M 21 s (i + c))) ∨ (z = 0 ∧ ¬ ∀ c, c < w → 0 ≤ M 21 s (i + c) ∧ M 21 s (i + c) < p)) ∧ ∀ k a b, k ≠ 17 → M' k a b = M k a b)) := by
  intro n
  induction n with
  | zero =>
    intro c Nn hn h0 h1 hS
    refine st_iload dX6_readNumbers_3 rfl ?_
    refine st_aload_n dX6_readNumbers_5 rfl ?_
    refine st_getr (i' := 0) dX6_readNumbers_6 fl_X6_12 rfl rfl rfl (fun _ => by decide) ?_
    refine st_getr (i' := 0) dX6_readNumbers_9 fl_X6_76 rfl rfl rfl (fun _ => by decide) ?_
    refine st_get dX6_readNumbers_12 fl_X6_106 rfl rfl rfl ?_
    refine fAt_v (x' := (w : Int)) ((hS 2 0 0 (by decide)).trans hw) ?_
    refine st_icmp_ge 56 dX6_readNumbers_15 (by decide) (fun h15 => ?_) (fun h15 => ?_)
    · skip
      refine st_iconst dX6_readNumbers_56 (by decide) ?_
      refine st_zreturn dX6_readNumbers_57 rfl (by omega) ⟨_, rfl, ⟨Or.inl ⟨rfl, fun q hq => h0 q (by omega), fun q hq => h1 q (by omega)⟩, hS⟩⟩
    · skip
      exact absurd h15 (by omega)
  | succ n ih =>
    intro c Nn hn h0 h1 hS
    refine st_iload dX6_readNumbers_3 rfl ?_
    refine st_aload_n dX6_readNumbers_5 rfl ?_
    refine st_getr (i' := 0) dX6_readNumbers_6 fl_X6_12 rfl rfl rfl (fun _ => by decide) ?_
    refine st_getr (i' := 0) dX6_readNumbers_9 fl_X6_76 rfl rfl rfl (fun _ => by decide) ?_
    refine st_get dX6_readNumbers_12 fl_X6_106 rfl rfl rfl ?_
    refine fAt_v (x' := (w : Int)) ((hS 2 0 0 (by decide)).trans hw) ?_
    refine st_icmp_ge 56 dX6_readNumbers_15 (by decide) (fun h15 => ?_) (fun h15 => ?_)
    · skip
      exact absurd h15 (by omega)
    · skip
      refine st_aload_n dX6_readNumbers_18 rfl ?_
      refine st_aload_n dX6_readNumbers_19 rfl ?_
      refine st_getr (i' := s) dX6_readNumbers_20 fl_X6_246 rfl rfl rfl (fun h => h) ?_
      refine st_iload_n dX6_readNumbers_23 rfl ?_
      refine st_iload dX6_readNumbers_24 rfl ?_
      refine st_iadd dX6_readNumbers_26 (by omega) ?_
      refine st_lald (j := (i + c)) dX6_readNumbers_27 rfl rfl rfl (by omega) (by omega) ?_
      refine fAt_vl (x' := M 21 s (i + c)) (hS 21 s _ (by decide)) ?_
      refine st_callVi [vl (M 21 s (i + c))] [] dX6_readNumbers_28 vl_X6_144 rfl rfl rfl rfl (Nat.le_of_ble_eq_true rfl) (by decide) (c_isNumber (p := p) ((hS 1 0 0 (by decide)).trans hp)) (fun za Ma qa => ?_)
      obtain ⟨qa, rfl⟩ := qa
      rcases qa with ⟨rfl, aa⟩ | ⟨rfl, aa⟩
      · skip
        refine st_if_ne 36 dX6_readNumbers_31 (by decide) (fun h31 => ?_) (fun h31 => ?_)
        · skip
          refine st_aload_n dX6_readNumbers_36 rfl ?_
          refine st_iload dX6_readNumbers_37 rfl ?_
          refine st_aload_n dX6_readNumbers_39 rfl ?_
          refine st_getr (i' := s) dX6_readNumbers_40 fl_X6_246 rfl rfl rfl (fun h => h) ?_
          refine st_iload_n dX6_readNumbers_43 rfl ?_
          refine st_iload dX6_readNumbers_44 rfl ?_
          refine st_iadd dX6_readNumbers_46 (by omega) ?_
          refine st_lald (j := (i + c)) dX6_readNumbers_47 rfl rfl rfl (by omega) (by omega) ?_
          refine fAt_vl (x' := M 21 s (i + c)) (hS 21 s _ (by decide)) ?_
          refine st_l2i dX6_readNumbers_48 (by omega) ?_
          refine st_iast (j := c) dX6_readNumbers_49 rfl rfl rfl rfl (by omega) ?_
          refine st_iinc (ls' := [some (vr 0 0), some (vr 20 s), some (vi (i : Int)), some (vr 17 0), some (vi ((c : Int) + 1))]) dX6_readNumbers_50 rfl (by omega) (by decide) rfl rfl ?_
          refine st_goto 3 dX6_readNumbers_53 (by decide) ?_
          refine ih (c + 1) _ (by omega) (fun q hq => by
            by_cases e : q = c
            · rw [e]; exact aa
            · exact h0 q (by omega)) (fun q hq => by
            by_cases e : q = c
            · rw [e, fup_eq]
            · rw [fup_ne (by omega)]; exact h1 q (by omega)) (fun k a b hk => by rw [fup_ne (by omega)]; exact hS k a b hk)
        · skip
          exact absurd h31 (by omega)
      · skip
        refine st_if_ne 36 dX6_readNumbers_31 (by decide) (fun h31 => ?_) (fun h31 => ?_)
        · skip
          exact absurd h31 (by omega)
        · skip
          refine st_iconst dX6_readNumbers_34 (by decide) ?_
          refine st_zreturn dX6_readNumbers_35 rfl (by omega) ⟨_, rfl, ⟨Or.inr ⟨rfl, fun q => aa (q c (by omega))⟩, hS⟩⟩
set_option maxHeartbeats 4000000 in
set_option maxRecDepth 100000 in
theorem c_readNumbers_17 {g : fG} {M : fM} {w s i : Nat} {p : Int} (hp : M 1 0 0 = p) (hp2 : 2 ≤ p ∧ p ≤ 97) (hw : M 2 0 0 = (w : Int)) (hw1 : 1 ≤ w ∧ w ≤ 6) (hi : i + w ≤ 24) :
    fCi g Y_X6_readNumbers [vr 0 0, vr 20 s, vi (i : Int), vr 17 0] M (fun z M' => ((z = 1 ∧ (∀ c, c < w → 0 ≤ M 21 s (i + c) ∧ M 21 s (i + c) < p) ∧ (∀ c, c < w → M' 17 0 c = M 21 s (i + c))) ∨ (z = 0 ∧ ¬ ∀ c, c < w → 0 ≤ M 21 s (i + c) ∧ M 21 s (i + c) < p)) ∧ ∀ k a b, k ≠ 17 → M' k a b = M k a b) := by
  refine fCi_of _ [some (vr 0 0), some (vr 20 s), some (vi (i : Int)), some (vr 17 0), none] (by decide) (Nat.le_of_ble_eq_true rfl) rfl (fun h => h) ?_
  refine st_iconst dX6_readNumbers_0 (by decide) ?_
  refine st_istore (ls' := [some (vr 0 0), some (vr 20 s), some (vi (i : Int)), some (vr 17 0), some (vi 0)]) dX6_readNumbers_1 (by decide) rfl rfl ?_
  exact readNumbers_l17 hp hp2 hw hw1 hi w 0 M (by omega) (fun q hq => absurd hq (by omega)) (fun q hq => absurd hq (by omega)) (fun _ _ _ _ => rfl)
set_option maxHeartbeats 4000000 in
set_option maxRecDepth 100000 in
theorem readNumbers_l18 {g : fG} {M : fM} {w s i : Nat} {p : Int} (hp : M 1 0 0 = p) (hp2 : 2 ≤ p ∧ p ≤ 97) (hw : M 2 0 0 = (w : Int)) (hw1 : 1 ≤ w ∧ w ≤ 6) (hi : i + w ≤ 24) :
    ∀ (n c : Nat) (Nn : fM), c + n = w → (∀ q, q < c → 0 ≤ M 21 s (i + q) ∧ M 21 s (i + q) < p) → (∀ q, q < c → Nn 18 0 q = M 21 s (i + q)) → (∀ k a b, k ≠ 18 → Nn k a b = M k a b) → fAt g Y_X6_readNumbers 3 [some (vr 0 0), some (vr 20 s), some (vi (i : Int)), some (vr 18 0), some (vi (c : Int))] [] Nn (fI (fun z M' => ((z = 1 ∧ (∀ c, c < w → 0 ≤ M 21 s (i + c) ∧ M 21 s (i + c) < p) ∧ (∀ c, c < w → M' 18 0 c = M 21 s (i + c))) ∨ (z = 0 ∧ ¬ ∀ c, c < w → 0 ≤ M 21 s (i + c) ∧ M 21 s (i + c) < p)) ∧ ∀ k a b, k ≠ 18 → M' k a b = M k a b)) := by
  intro n
  induction n with
  | zero =>
    intro c Nn hn h0 h1 hS
    refine st_iload dX6_readNumbers_3 rfl ?_
    refine st_aload_n dX6_readNumbers_5 rfl ?_
    refine st_getr (i' := 0) dX6_readNumbers_6 fl_X6_12 rfl rfl rfl (fun _ => by decide) ?_
    refine st_getr (i' := 0) dX6_readNumbers_9 fl_X6_76 rfl rfl rfl (fun _ => by decide) ?_
    refine st_get dX6_readNumbers_12 fl_X6_106 rfl rfl rfl ?_
    refine fAt_v (x' := (w : Int)) ((hS 2 0 0 (by decide)).trans hw) ?_
    refine st_icmp_ge 56 dX6_readNumbers_15 (by decide) (fun h15 => ?_) (fun h15 => ?_)
    · skip
      refine st_iconst dX6_readNumbers_56 (by decide) ?_
      refine st_zreturn dX6_readNumbers_57 rfl (by omega) ⟨_, rfl, ⟨Or.inl ⟨rfl, fun q hq => h0 q (by omega), fun q hq => h1 q (by omega)⟩, hS⟩⟩
    · skip
      exact absurd h15 (by omega)
  | succ n ih =>
    intro c Nn hn h0 h1 hS
    refine st_iload dX6_readNumbers_3 rfl ?_
    refine st_aload_n dX6_readNumbers_5 rfl ?_
    refine st_getr (i' := 0) dX6_readNumbers_6 fl_X6_12 rfl rfl rfl (fun _ => by decide) ?_
    refine st_getr (i' := 0) dX6_readNumbers_9 fl_X6_76 rfl rfl rfl (fun _ => by decide) ?_
    refine st_get dX6_readNumbers_12 fl_X6_106 rfl rfl rfl ?_
    refine fAt_v (x' := (w : Int)) ((hS 2 0 0 (by decide)).trans hw) ?_
    refine st_icmp_ge 56 dX6_readNumbers_15 (by decide) (fun h15 => ?_) (fun h15 => ?_)
    · skip
      exact absurd h15 (by omega)
    · skip
      refine st_aload_n dX6_readNumbers_18 rfl ?_
      refine st_aload_n dX6_readNumbers_19 rfl ?_
      refine st_getr (i' := s) dX6_readNumbers_20 fl_X6_246 rfl rfl rfl (fun h => h) ?_
      refine st_iload_n dX6_readNumbers_23 rfl ?_
      refine st_iload dX6_readNumbers_24 rfl ?_
      refine st_iadd dX6_readNumbers_26 (by omega) ?_
      refine st_lald (j := (i + c)) dX6_readNumbers_27 rfl rfl rfl (by omega) (by omega) ?_
      refine fAt_vl (x' := M 21 s (i + c)) (hS 21 s _ (by decide)) ?_
      refine st_callVi [vl (M 21 s (i + c))] [] dX6_readNumbers_28 vl_X6_144 rfl rfl rfl rfl (Nat.le_of_ble_eq_true rfl) (by decide) (c_isNumber (p := p) ((hS 1 0 0 (by decide)).trans hp)) (fun za Ma qa => ?_)
      obtain ⟨qa, rfl⟩ := qa
      rcases qa with ⟨rfl, aa⟩ | ⟨rfl, aa⟩
      · skip
        refine st_if_ne 36 dX6_readNumbers_31 (by decide) (fun h31 => ?_) (fun h31 => ?_)
        · skip
          refine st_aload_n dX6_readNumbers_36 rfl ?_
          refine st_iload dX6_readNumbers_37 rfl ?_
          refine st_aload_n dX6_readNumbers_39 rfl ?_
          refine st_getr (i' := s) dX6_readNumbers_40 fl_X6_246 rfl rfl rfl (fun h => h) ?_
          refine st_iload_n dX6_readNumbers_43 rfl ?_
          refine st_iload dX6_readNumbers_44 rfl ?_
          refine st_iadd dX6_readNumbers_46 (by omega) ?_
          refine st_lald (j := (i + c)) dX6_readNumbers_47 rfl rfl rfl (by omega) (by omega) ?_
          refine fAt_vl (x' := M 21 s (i + c)) (hS 21 s _ (by decide)) ?_
          refine st_l2i dX6_readNumbers_48 (by omega) ?_
          refine st_iast (j := c) dX6_readNumbers_49 rfl rfl rfl rfl (by omega) ?_
          refine st_iinc (ls' := [some (vr 0 0), some (vr 20 s), some (vi (i : Int)), some (vr 18 0), some (vi ((c : Int) + 1))]) dX6_readNumbers_50 rfl (by omega) (by decide) rfl rfl ?_
          refine st_goto 3 dX6_readNumbers_53 (by decide) ?_
          refine ih (c + 1) _ (by omega) (fun q hq => by
            by_cases e : q = c
            · rw [e]; exact aa
            · exact h0 q (by omega)) (fun q hq => by
            by_cases e : q = c
            · rw [e, fup_eq]
            · rw [fup_ne (by omega)]; exact h1 q (by omega)) (fun k a b hk => by rw [fup_ne (by omega)]; exact hS k a b hk)
        · skip
          exact absurd h31 (by omega)
      · skip
        refine st_if_ne 36 dX6_readNumbers_31 (by decide) (fun h31 => ?_) (fun h31 => ?_)
        · skip
          exact absurd h31 (by omega)
        · skip
          refine st_iconst dX6_readNumbers_34 (by decide) ?_
          refine st_zreturn dX6_readNumbers_35 rfl (by omega) ⟨_, rfl, ⟨Or.inr ⟨rfl, fun q => aa (q c (by omega))⟩, hS⟩⟩
set_option maxHeartbeats 4000000 in
set_option maxRecDepth 100000 in
theorem c_readNumbers_18 {g : fG} {M : fM} {w s i : Nat} {p : Int} (hp : M 1 0 0 = p) (hp2 : 2 ≤ p ∧ p ≤ 97) (hw : M 2 0 0 = (w : Int)) (hw1 : 1 ≤ w ∧ w ≤ 6) (hi : i + w ≤ 24) :
    fCi g Y_X6_readNumbers [vr 0 0, vr 20 s, vi (i : Int), vr 18 0] M (fun z M' => ((z = 1 ∧ (∀ c, c < w → 0 ≤ M 21 s (i + c) ∧ M 21 s (i + c) < p) ∧ (∀ c, c < w → M' 18 0 c = M 21 s (i + c))) ∨ (z = 0 ∧ ¬ ∀ c, c < w → 0 ≤ M 21 s (i + c) ∧ M 21 s (i + c) < p)) ∧ ∀ k a b, k ≠ 18 → M' k a b = M k a b) := by
  refine fCi_of _ [some (vr 0 0), some (vr 20 s), some (vi (i : Int)), some (vr 18 0), none] (by decide) (Nat.le_of_ble_eq_true rfl) rfl (fun h => h) ?_
  refine st_iconst dX6_readNumbers_0 (by decide) ?_
  refine st_istore (ls' := [some (vr 0 0), some (vr 20 s), some (vi (i : Int)), some (vr 18 0), some (vi 0)]) dX6_readNumbers_1 (by decide) rfl rfl ?_
  exact readNumbers_l18 hp hp2 hw hw1 hi w 0 M (by omega) (fun q hq => absurd hq (by omega)) (fun q hq => absurd hq (by omega)) (fun _ _ _ _ => rfl)
def kst (f : Nat → Int) : Nat → Int
  | 0 => 0
  | n + 1 => (Int32.ofInt (kst f n) ||| Int32.ofInt (if f n = 0 then 0 else (Int32.ofInt 1 <<< (Int32.ofInt (n : Int) &&& 31)).toInt)).toInt
def nmS (p : Int) (x : Nat → Int) (n : Nat) : Prop := ∀ c, c < n → 0 ≤ x c ∧ x c < p
/-- what came answers, of the items -/
def CmS (p : Int) (w : Nat) (L : Nat → Int) (x : Nat → Int) (z : Int) : Prop := (¬ nmS p x (2 * w) ∧ z = 0) ∨ (nmS p x (2 * w) ∧ z = kst (fun kd => alE (rtS p w (ent p w (kd : Int) L) x) (fun r => x (w + r)) w) 5)
theorem rtS_c {p : Int} {w : Nat} {E E' : Nat → Nat → Int} {x x' : Nat → Int} {r : Nat} (hr : r < w) (hE : ∀ a b, a < w → b < w → E a b = E' a b) (hx : ∀ c, c < w → x c = x' c) : rtS p w E x r = rtS p w E' x' r := by
  unfold rtS
  rw [sm_congr (fun c hc => by rw [hE r c hr hc, hx c hc])]
set_option maxHeartbeats 4000000 in
set_option maxRecDepth 100000 in
theorem came_l {g : fG} {M : fM} {w : Nat} {p : Int} (hx : xOk M w p) {s la i : Int} {F : Nat → Int} (hgv : ∀ c, c < w → 0 ≤ M 17 0 c ∧ M 17 0 c < p) (hF : ∀ q : Nat, F q = alE (rtS p w (ent p w (q : Int) (M 3 0)) (M 17 0)) (M 18 0) w) :
    ∀ (n kd : Nat), kd + n = 5 → fAt g Y_X6_came 80 [some (vr 0 0), some (vi s), some (vi la), some (vi i), some (vi (w : Int)), some (vi 0), some (vi (kst F kd)), some (vi (kd : Int))] [] M (fI (fun z M' => z = kst F 5 ∧ M' = M)) := by
  have hw1 := hx.2.2.1.2.1
  have hp2 := hx.2.1.1
  intro n
  induction n with
  | zero =>
    intro kd hn
    refine st_iload dX6_came_80 rfl ?_
    refine st_iconst dX6_came_82 (by decide) ?_
    refine st_icmp_ge 114 dX6_came_83 (by decide) (fun h83 => ?_) (fun h83 => ?_)
    · skip
      refine st_iload dX6_came_114 rfl ?_
      refine st_ireturn dX6_came_116 rfl ⟨_, rfl, ⟨by rw [show (5 : Nat) = kd by omega], rfl⟩⟩
    · skip
      exact absurd h83 (by omega)
  | succ n ih =>
    intro kd hn
    refine st_iload dX6_came_80 rfl ?_
    refine st_iconst dX6_came_82 (by decide) ?_
    refine st_icmp_ge 114 dX6_came_83 (by decide) (fun h83 => ?_) (fun h83 => ?_)
    · skip
      exact absurd h83 (by omega)
    · skip
      refine st_iload dX6_came_86 rfl ?_
      refine st_aload_n dX6_came_88 rfl ?_
      refine st_iload dX6_came_89 rfl ?_
      refine st_callVi [vi (kd : Int)] [vi (kst F kd)] dX6_came_91 vl_X6_243 rfl rfl rfl rfl (Nat.le_of_ble_eq_true rfl) (by decide) (c_comesBy (kd := (kd : Int)) hx (by omega) hgv) (fun z Mc qc => ?_)
      obtain ⟨rfl, q⟩ := qc
      subst Mc
      refine st_if_eq 104 dX6_came_94 (by decide) (fun h94 => ?_) (fun h94 => ?_)
      · skip
        refine st_iconst dX6_came_104 (by decide) ?_
        refine st_ior dX6_came_105 ?_
        refine st_istore (ls' := [some (vr 0 0), some (vi s), some (vi la), some (vi i), some (vi (w : Int)), some (vi 0), some (vi (Int32.ofInt (kst F kd) ||| Int32.ofInt 0).toInt), some (vi (kd : Int))]) dX6_came_106 (by decide) rfl rfl ?_
        refine st_iinc (ls' := [some (vr 0 0), some (vi s), some (vi la), some (vi i), some (vi (w : Int)), some (vi 0), some (vi (Int32.ofInt (kst F kd) ||| Int32.ofInt 0).toInt), some (vi ((kd : Int) + 1))]) dX6_came_108 rfl (by omega) (by decide) rfl rfl ?_
        refine st_goto 80 dX6_came_111 (by decide) ?_
        refine fAt_ls (ls' := [some (vr 0 0), some (vi s), some (vi la), some (vi i), some (vi (w : Int)), some (vi 0), some (vi (kst F (kd + 1))), some (vi ((kd + 1 : Nat) : Int))]) (by
          first
          | (rw [show kst F (kd + 1) = (Int32.ofInt (kst F kd) ||| Int32.ofInt 0).toInt by show (Int32.ofInt (kst F kd) ||| Int32.ofInt (if F kd = 0 then _ else _)).toInt = _; rw [if_pos (by rw [hF]; exact h94)]]; rfl)
          | (rw [show kst F (kd + 1) = (Int32.ofInt (kst F kd) ||| Int32.ofInt (Int32.ofInt 1 <<< (Int32.ofInt (kd : Int) &&& 31)).toInt).toInt by show (Int32.ofInt (kst F kd) ||| Int32.ofInt (if F kd = 0 then _ else _)).toInt = _; rw [if_neg (by rw [hF]; exact h94)]]; rfl)) ?_
        exact ih (kd + 1) (by omega)
      · skip
        refine st_iconst dX6_came_97 (by decide) ?_
        refine st_iload dX6_came_98 rfl ?_
        refine st_ishl dX6_came_100 ?_
        refine st_goto 105 dX6_came_101 (by decide) ?_
        refine st_ior dX6_came_105 ?_
        refine st_istore (ls' := [some (vr 0 0), some (vi s), some (vi la), some (vi i), some (vi (w : Int)), some (vi 0), some (vi (Int32.ofInt (kst F kd) ||| Int32.ofInt (Int32.ofInt 1 <<< (Int32.ofInt (kd : Int) &&& 31)).toInt).toInt), some (vi (kd : Int))]) dX6_came_106 (by decide) rfl rfl ?_
        refine st_iinc (ls' := [some (vr 0 0), some (vi s), some (vi la), some (vi i), some (vi (w : Int)), some (vi 0), some (vi (Int32.ofInt (kst F kd) ||| Int32.ofInt (Int32.ofInt 1 <<< (Int32.ofInt (kd : Int) &&& 31)).toInt).toInt), some (vi ((kd : Int) + 1))]) dX6_came_108 rfl (by omega) (by decide) rfl rfl ?_
        refine st_goto 80 dX6_came_111 (by decide) ?_
        refine fAt_ls (ls' := [some (vr 0 0), some (vi s), some (vi la), some (vi i), some (vi (w : Int)), some (vi 0), some (vi (kst F (kd + 1))), some (vi ((kd + 1 : Nat) : Int))]) (by
          first
          | (rw [show kst F (kd + 1) = (Int32.ofInt (kst F kd) ||| Int32.ofInt 0).toInt by show (Int32.ofInt (kst F kd) ||| Int32.ofInt (if F kd = 0 then _ else _)).toInt = _; rw [if_pos (by rw [hF]; exact h94)]]; rfl)
          | (rw [show kst F (kd + 1) = (Int32.ofInt (kst F kd) ||| Int32.ofInt (Int32.ofInt 1 <<< (Int32.ofInt (kd : Int) &&& 31)).toInt).toInt by show (Int32.ofInt (kst F kd) ||| Int32.ofInt (if F kd = 0 then _ else _)).toInt = _; rw [if_neg (by rw [hF]; exact h94)]]; rfl)) ?_
        exact ih (kd + 1) (by omega)
theorem fAt_v2 {g : fG} {Y : fY} {pc : Nat} {ls : List (Option fV)} {st : List fV} {M : fM} {Q : Option fV → fM → Prop} {v : fV} {x x' : Int} (hx : x = x') (kk : fAt g Y pc ls (v :: vi x' :: st) M Q) : fAt g Y pc ls (v :: vi x :: st) M Q := by
  rw [hx]; exact kk
theorem kst_c {f h : Nat → Int} : ∀ {n : Nat}, (∀ q, q < n → f q = h q) → kst f n = kst h n
  | 0, _ => rfl
  | n + 1, e => by
    unfold kst
    rw [kst_c (fun q hq => e q (by omega)), e n (by omega)]
theorem gI_k {M N : fM} {K : Nat} (hg : gI M) (h : ∀ k a b, k ≠ K → N k a b = M k a b) (h8 : 8 ≠ K) (h12 : 12 ≠ K) : gI N := by
  obtain ⟨q, g1, g2, g3⟩ := hg
  exact ⟨q, by rw [h 8 0 3 h8]; exact g1, g2, fun a a1 a2 => by rw [h 12 0 a h12]; exact g3 a a1 a2⟩
set_option maxHeartbeats 4000000 in
set_option maxRecDepth 100000 in
theorem c_came {g : fG} {M : fM} {w : Nat} {p : Int} (hx : xOk M w p) {s la i : Int} (hs : shL M) :
    fCi g Y_X6_came [vr 0 0, vi s, vi la, vi i] M (fun z M' => ((rfs M s la i (2 * (w : Int)) ≠ 0 ∧ z = rfs M s la i (2 * (w : Int))) ∨ (rfs M s la i (2 * (w : Int)) = 0 ∧ CmS p w (M 3 0) (fun c => M 21 s.toNat (i.toNat + c)) z)) ∧ uS M M' ∧ gI M') := by
  have hw1 := hx.2.2.1.2.1
  have hp2 := hx.2.1.1
  refine fCi_of _ [some (vr 0 0), some (vi s), some (vi la), some (vi i), none, none, none, none] (by decide) (Nat.le_of_ble_eq_true rfl) rfl (fun h => h) ?_
  refine st_aload_n dX6_came_0 rfl ?_
  refine st_getr (i' := 0) dX6_came_1 fl_X6_12 rfl rfl rfl (fun _ => by decide) ?_
  refine st_getr (i' := 0) dX6_came_4 fl_X6_76 rfl rfl rfl (fun _ => by decide) ?_
  refine st_get dX6_came_7 fl_X6_106 rfl rfl rfl ?_
  refine fAt_v (x' := (w : Int)) hx.2.2.1.1 ?_
  refine st_istore (ls' := [some (vr 0 0), some (vi s), some (vi la), some (vi i), some (vi (w : Int)), none, none, none]) dX6_came_10 (by decide) rfl rfl ?_
  refine st_aload_n dX6_came_12 rfl ?_
  refine st_iload_n dX6_came_13 rfl ?_
  refine st_iload_n dX6_came_14 rfl ?_
  refine st_iload_n dX6_came_15 rfl ?_
  refine st_iconst dX6_came_16 (by decide) ?_
  refine st_iload dX6_came_17 rfl ?_
  refine st_imul dX6_came_19 (by omega) ?_
  refine st_callVi [vi s, vi la, vi i, vi (2 * (w : Int))] [] dX6_came_20 vl_X6_236 rfl rfl rfl rfl (Nat.le_of_ble_eq_true rfl) (by decide) (c_refusalOf hs) (fun z Ma qa => ?_)
  obtain ⟨rfl, rfl⟩ := qa
  refine st_istore (ls' := [some (vr 0 0), some (vi s), some (vi la), some (vi i), some (vi (w : Int)), some (vi (rfs Ma s la i (2 * (w : Int)))), none, none]) dX6_came_23 (by decide) rfl rfl ?_
  refine st_iload dX6_came_25 rfl ?_
  refine st_if_eq 33 dX6_came_27 (by decide) (fun h27 => ?_) (fun h27 => ?_)
  · skip
    have hr := rfs_0 h27
    have hr24 := sh24 hs hr.1 hr.2.2.2.2.2.2
    refine st_aload_n dX6_came_33 rfl ?_
    refine st_aload_n dX6_came_34 rfl ?_
    refine st_getr (i' := 0) dX6_came_35 fl_X6_63 rfl rfl rfl (fun _ => by decide) ?_
    refine st_iload_n dX6_came_38 rfl ?_
    refine st_aald (j := s.toNat) (i' := s.toNat) dX6_came_39 rfl rfl rfl rfl ⟨_, rfl, rfl⟩ (by omega) (show s.toNat < 4 from by omega) rfl (fun _ => show s.toNat < 4 from by omega) ?_
    refine st_iload_n dX6_came_40 rfl ?_
    refine st_aload_n dX6_came_41 rfl ?_
    refine st_getr (i' := 0) dX6_came_42 fl_X6_55 rfl rfl rfl (fun _ => by decide) ?_
    refine fAt_v2 (x' := ((i.toNat : Nat) : Int)) (by omega) ?_
    refine st_callVi [vr 20 s.toNat, vi ((i.toNat : Nat) : Int), vr 17 0] [] dX6_came_45 vl_X6_239 rfl rfl rfl rfl (Nat.le_of_ble_eq_true rfl) (by decide) (c_readNumbers_17 (i := i.toNat) hx.1 hx.2.1.1 hx.2.2.1.1 hx.2.2.1.2.1 (by omega)) (fun zb Mb qb => ?_)
    obtain ⟨qb, hSb⟩ := qb
    rcases qb with ⟨rfl, ab, eb⟩ | ⟨rfl, ab⟩
    · skip
      refine st_if_eq 72 dX6_came_48 (by decide) (fun h48 => ?_) (fun h48 => ?_)
      · skip
        exact absurd h48 (by omega)
      · skip
        refine st_aload_n dX6_came_51 rfl ?_
        refine st_aload_n dX6_came_52 rfl ?_
        refine st_getr (i' := 0) dX6_came_53 fl_X6_63 rfl rfl rfl (fun _ => by decide) ?_
        refine st_iload_n dX6_came_56 rfl ?_
        refine st_aald (j := s.toNat) (i' := s.toNat) dX6_came_57 rfl rfl rfl rfl ⟨_, rfl, rfl⟩ (by omega) (show s.toNat < 4 from by omega) rfl (fun _ => show s.toNat < 4 from by omega) ?_
        refine st_iload_n dX6_came_58 rfl ?_
        refine st_iload dX6_came_59 rfl ?_
        refine st_iadd dX6_came_61 (by omega) ?_
        refine st_aload_n dX6_came_62 rfl ?_
        refine st_getr (i' := 0) dX6_came_63 fl_X6_58 rfl rfl rfl (fun _ => by decide) ?_
        refine fAt_v2 (x' := ((i.toNat + w : Nat) : Int)) (by omega) ?_
        refine st_callVi [vr 20 s.toNat, vi (((i.toNat + w) : Nat) : Int), vr 18 0] [] dX6_came_66 vl_X6_239 rfl rfl rfl rfl (Nat.le_of_ble_eq_true rfl) (by decide) (c_readNumbers_18 (i := i.toNat + w) (p := p) (w := w) ((hSb 1 0 0 (by decide)).trans hx.1) hx.2.1.1 ((hSb 2 0 0 (by decide)).trans hx.2.2.1.1) hx.2.2.1.2.1 (by omega)) (fun zc Mc qc => ?_)
        obtain ⟨qc, hSc⟩ := qc
        have hu : uS Ma Mc := fun k a b q1 q2 q3 q4 q5 q6 q7 q8 => (hSc k a b q7).trans (hSb k a b q6)
        have hgI := gI_k (gI_k hx.2.2.2 hSb (by decide) (by decide)) hSc (by decide) (by decide)
        have e21 : ∀ b, Mb 21 s.toNat b = Ma 21 s.toNat b := fun b => hSb 21 s.toNat b (by decide)
        rcases qc with ⟨rfl, ac, ec⟩ | ⟨rfl, ac⟩
        · skip
          refine st_if_ne 74 dX6_came_69 (by decide) (fun h69 => ?_) (fun h69 => ?_)
          · skip
            refine st_iconst dX6_came_74 (by decide) ?_
            refine st_istore (ls' := [some (vr 0 0), some (vi s), some (vi la), some (vi i), some (vi (w : Int)), some (vi (rfs Ma s la i (2 * (w : Int)))), some (vi 0), none]) dX6_came_75 (by decide) rfl rfl ?_
            refine st_iconst dX6_came_77 (by decide) ?_
            refine st_istore (ls' := [some (vr 0 0), some (vi s), some (vi la), some (vi i), some (vi (w : Int)), some (vi (rfs Ma s la i (2 * (w : Int)))), some (vi 0), some (vi 0)]) dX6_came_78 (by decide) rfl rfl ?_
            refine fAt_ls (ls' := [some (vr 0 0), some (vi s), some (vi la), some (vi i), some (vi (w : Int)), some (vi 0), some (vi (kst (fun q : Nat => alE (rtS p w (ent p w (q : Int) (Mc 3 0)) (Mc 17 0)) (Mc 18 0) w) 0)), some (vi ((0 : Nat) : Int))]) (by rw [h27]; rfl) ?_
            have e17 : ∀ c, c < w → Mc 17 0 c = Ma 21 s.toNat (i.toNat + c) := fun c hc => (hSc 17 0 c (by decide)).trans (eb c hc)
            have e18 : ∀ c, c < w → Mc 18 0 c = Ma 21 s.toNat (i.toNat + (w + c)) := fun c hc => by rw [ec c hc, e21, Nat.add_assoc]
            have e3 : Mc 3 0 = Ma 3 0 := funext fun q => hu 3 0 q (by decide) (by decide) (by decide) (by decide) (by decide) (by decide) (by decide) (by omega)
            refine fAt_q (fun r M' h => ?_) (came_l (xOk_u hx hu hgI) (fun c hc => by rw [e17 c hc]; exact ab c hc) (fun q => rfl) 5 0 (by omega))
            obtain ⟨z, e, h1, h2⟩ := h
            subst h2
            refine ⟨z, e, Or.inr ⟨h27, Or.inr ⟨fun c hc => ?_, ?_⟩⟩, hu, hgI⟩
            · by_cases q : c < w
              · exact ab c q
              · have := ac (c - w) (by omega)
                rw [e21, show i.toNat + w + (c - w) = i.toNat + c by omega] at this
                exact this
            · rw [h1]
              exact kst_c (fun q hq => alE_c (fun r hr => ⟨rtS_c hr (fun a b ha hb => by rw [e3]) e17, e18 r hr⟩))
          · skip
            exact absurd h69 (by omega)
        · skip
          refine st_if_ne 74 dX6_came_69 (by decide) (fun h69 => ?_) (fun h69 => ?_)
          · skip
            exact absurd rfl h69
          · skip
            refine st_iconst dX6_came_72 (by decide) ?_
            refine st_ireturn dX6_came_73 rfl ⟨_, rfl, ⟨Or.inr ⟨h27, Or.inl ⟨fun q => ac (fun c hc => by have := q (w + c) (by omega); rw [e21, Nat.add_assoc]; exact this), rfl⟩⟩, hu, hgI⟩⟩
    · skip
      refine st_if_eq 72 dX6_came_48 (by decide) (fun h48 => ?_) (fun h48 => ?_)
      · skip
        refine st_iconst dX6_came_72 (by decide) ?_
        refine st_ireturn dX6_came_73 rfl ⟨_, rfl, ⟨Or.inr ⟨h27, Or.inl ⟨fun q => ab (fun c hc => q c (by omega)), rfl⟩⟩, fun k a b q1 q2 q3 q4 q5 q6 q7 q8 => hSb k a b q6, gI_k hx.2.2.2 hSb (by decide) (by decide)⟩⟩
      · skip
        exact absurd rfl h48
  · skip
    refine st_iload dX6_came_30 rfl ?_
    refine st_ireturn dX6_came_32 rfl ⟨_, rfl, ⟨Or.inl ⟨h27, rfl⟩, uS_r _, hx.2.2.2⟩⟩
/-- items put behind others -/
def apM (M : fM) (s o n : Nat) (v : Nat → Int) : fM := fun k a b => if k = 21 ∧ a = s ∧ o ≤ b ∧ b < o + n then v (b - o) else M k a b
theorem apM_0 (M : fM) (s o : Nat) (v : Nat → Int) : apM M s o 0 v = M := by
  funext k a b
  unfold apM
  rw [if_neg (by omega)]
theorem apM_s (M : fM) (s o n : Nat) (v : Nat → Int) : fup (apM M s o n v) 21 s (o + n) (v n) = apM M s o (n + 1) v := by
  funext k a b
  unfold fup apM
  by_cases e : k = 21 ∧ a = s ∧ b = o + n
  · rw [if_pos e, if_pos (by omega), show b - o = n by omega]
  · rw [if_neg e]
    by_cases e2 : k = 21 ∧ a = s ∧ o ≤ b ∧ b < o + n
    · rw [if_pos e2, if_pos (by omega)]
    · rw [if_neg e2, if_neg (by omega)]
theorem apM_off {M : fM} {s o n k a b : Nat} {v : Nat → Int} (h : k ≠ 21) : apM M s o n v k a b = M k a b := by
  unfold apM
  rw [if_neg (by omega)]
theorem gI_ap {M : fM} {s o n : Nat} {v : Nat → Int} (h : gI M) : gI (apM M s o n v) := gI_k (K := 21) h (fun k a b hk => apM_off hk) (by decide) (by decide)
theorem xOk_ap {M : fM} {w s o n : Nat} {p : Int} {v : Nat → Int} (h : xOk M w p) : xOk (apM M s o n v) w p := ⟨h.1, h.2.1, h.2.2.1, gI_ap h.2.2.2⟩
set_option maxHeartbeats 4000000 in
set_option maxRecDepth 100000 in
theorem apply_l {g : fG} {M : fM} {w : Nat} {p : Int} (hx : xOk M w p) {s la i : Int} (hs4 : 0 ≤ s ∧ s < 4) (hi : 0 ≤ i ∧ i + 2 * (w : Int) ≤ 24) (hgv : ∀ c, c < w → 0 ≤ M 17 0 c ∧ M 17 0 c < p) :
    ∀ (n r : Nat), r + n = w → fAt g Y_X6_apply 57 [some (vr 0 0), some (vi s), some (vi la), some (vi i), some (vi (w : Int)), some (vi 0), some (vi (r : Int))] [] (apM M s.toNat (i.toNat + w) r (rtS p w (eM M 0 w p) (M 17 0))) (fI (fun z M' => z = 1 ∧ M' = (apM M s.toNat (i.toNat + w) w (rtS p w (eM M 0 w p) (M 17 0))))) := by
  have hw1 := hx.2.2.1.2.1
  have hp2 := hx.2.1.1
  intro n
  induction n with
  | zero =>
    intro r hn
    refine st_iload dX6_apply_57 rfl ?_
    refine st_iload dX6_apply_59 rfl ?_
    refine st_icmp_ge 104 dX6_apply_61 (by decide) (fun h61 => ?_) (fun h61 => ?_)
    · skip
      refine st_iconst dX6_apply_104 (by decide) ?_
      refine st_ireturn dX6_apply_105 rfl ⟨_, rfl, ⟨rfl, by rw [show r = w by omega]⟩⟩
    · skip
      exact absurd h61 (by omega)
  | succ n ih =>
    intro r hn
    refine st_iload dX6_apply_57 rfl ?_
    refine st_iload dX6_apply_59 rfl ?_
    refine st_icmp_ge 104 dX6_apply_61 (by decide) (fun h61 => ?_) (fun h61 => ?_)
    · skip
      exact absurd h61 (by omega)
    · skip
      refine st_aload_n dX6_apply_64 rfl ?_
      refine st_getr (i' := 0) dX6_apply_65 fl_X6_63 rfl rfl rfl (fun _ => by decide) ?_
      refine st_iload_n dX6_apply_68 rfl ?_
      refine st_aald (j := s.toNat) (i' := s.toNat) dX6_apply_69 rfl rfl rfl rfl ⟨_, rfl, rfl⟩ (by omega) (show s.toNat < 4 from by omega) rfl (fun _ => show s.toNat < 4 from by omega) ?_
      refine st_getr (i' := s.toNat) dX6_apply_70 fl_X6_246 rfl rfl rfl (fun h => h) ?_
      refine st_iload_n dX6_apply_73 rfl ?_
      refine st_iload dX6_apply_74 rfl ?_
      refine st_iadd dX6_apply_76 (by omega) ?_
      refine st_iload dX6_apply_77 rfl ?_
      refine st_iadd dX6_apply_79 (by omega) ?_
      refine st_aload_n dX6_apply_80 rfl ?_
      refine st_aload_n dX6_apply_81 rfl ?_
      refine st_getr (i' := 0) dX6_apply_82 fl_X6_12 rfl rfl rfl (fun _ => by decide) ?_
      refine st_getr (i' := 0) dX6_apply_85 fl_X6_76 rfl rfl rfl (fun _ => by decide) ?_
      refine st_get dX6_apply_88 fl_X6_121 rfl rfl rfl ?_
      refine st_iload dX6_apply_91 rfl ?_
      refine st_callVi [vi ((apM M s.toNat (i.toNat + w) r (rtS p w (eM M 0 w p) (M 17 0))) 2 0 1), vi (r : Int)] [vi ((i + (w : Int)) + (r : Int)), vr 21 s.toNat] dX6_apply_93 vl_X6_250 rfl rfl rfl rfl (Nat.le_of_ble_eq_true rfl) (by decide) (c_rowTimesGiven (kd := M 2 0 1) (xOk_ap hx) hx.2.2.1.2.2.1 (by omega) hgv) (fun z Mc qc => ?_)
      obtain ⟨rfl, q⟩ := qc
      subst Mc
      refine st_i2l dX6_apply_96 ?_
      refine st_last (j := (i.toNat + w + r)) dX6_apply_97 rfl rfl rfl (by omega) (by omega) ?_
      refine fAt_m (apM_s M s.toNat (i.toNat + w) r (rtS p w (eM M 0 w p) (M 17 0))) ?_
      refine st_iinc (ls' := [some (vr 0 0), some (vi s), some (vi la), some (vi i), some (vi (w : Int)), some (vi 0), some (vi ((r : Int) + 1))]) dX6_apply_98 rfl (by omega) (by decide) rfl rfl ?_
      refine st_goto 57 dX6_apply_101 (by decide) ?_
      exact ih (r + 1) (by omega)
set_option maxHeartbeats 4000000 in
set_option maxRecDepth 100000 in
theorem c_apply {g : fG} {M : fM} {w : Nat} {p : Int} (hx : xOk M w p) {s la i : Int} (hs : shL M) :
    fCi g Y_X6_apply [vr 0 0, vi s, vi la, vi i] M (fun z M' => ((rfs M s la i (2 * (w : Int)) ≠ 0 ∧ z = rfs M s la i (2 * (w : Int)) ∧ uS M M') ∨ (rfs M s la i (2 * (w : Int)) = 0 ∧ ((¬ nmS p (fun c => M 21 s.toNat (i.toNat + c)) w ∧ z = -2 ∧ uS M M') ∨ (nmS p (fun c => M 21 s.toNat (i.toNat + c)) w ∧ z = 1 ∧ uS (apM M s.toNat (i.toNat + w) w (rtS p w (eM M 0 w p) (fun c => M 21 s.toNat (i.toNat + c)))) M')))) ∧ gI M') := by
  have hw1 := hx.2.2.1.2.1
  have hp2 := hx.2.1.1
  refine fCi_of _ [some (vr 0 0), some (vi s), some (vi la), some (vi i), none, none, none] (by decide) (Nat.le_of_ble_eq_true rfl) rfl (fun h => h) ?_
  refine st_aload_n dX6_apply_0 rfl ?_
  refine st_getr (i' := 0) dX6_apply_1 fl_X6_12 rfl rfl rfl (fun _ => by decide) ?_
  refine st_getr (i' := 0) dX6_apply_4 fl_X6_76 rfl rfl rfl (fun _ => by decide) ?_
  refine st_get dX6_apply_7 fl_X6_106 rfl rfl rfl ?_
  refine fAt_v (x' := (w : Int)) hx.2.2.1.1 ?_
  refine st_istore (ls' := [some (vr 0 0), some (vi s), some (vi la), some (vi i), some (vi (w : Int)), none, none]) dX6_apply_10 (by decide) rfl rfl ?_
  refine st_aload_n dX6_apply_12 rfl ?_
  refine st_iload_n dX6_apply_13 rfl ?_
  refine st_iload_n dX6_apply_14 rfl ?_
  refine st_iload_n dX6_apply_15 rfl ?_
  refine st_iconst dX6_apply_16 (by decide) ?_
  refine st_iload dX6_apply_17 rfl ?_
  refine st_imul dX6_apply_19 (by omega) ?_
  refine st_callVi [vi s, vi la, vi i, vi (2 * (w : Int))] [] dX6_apply_20 vl_X6_236 rfl rfl rfl rfl (Nat.le_of_ble_eq_true rfl) (by decide) (c_refusalOf hs) (fun z Ma qa => ?_)
  obtain ⟨rfl, rfl⟩ := qa
  refine st_istore (ls' := [some (vr 0 0), some (vi s), some (vi la), some (vi i), some (vi (w : Int)), some (vi (rfs Ma s la i (2 * (w : Int)))), none]) dX6_apply_23 (by decide) rfl rfl ?_
  refine st_iload dX6_apply_25 rfl ?_
  refine st_if_eq 33 dX6_apply_27 (by decide) (fun h27 => ?_) (fun h27 => ?_)
  · skip
    have hr := rfs_0 h27
    have hr24 := sh24 hs hr.1 hr.2.2.2.2.2.2
    refine st_aload_n dX6_apply_33 rfl ?_
    refine st_aload_n dX6_apply_34 rfl ?_
    refine st_getr (i' := 0) dX6_apply_35 fl_X6_63 rfl rfl rfl (fun _ => by decide) ?_
    refine st_iload_n dX6_apply_38 rfl ?_
    refine st_aald (j := s.toNat) (i' := s.toNat) dX6_apply_39 rfl rfl rfl rfl ⟨_, rfl, rfl⟩ (by omega) (show s.toNat < 4 from by omega) rfl (fun _ => show s.toNat < 4 from by omega) ?_
    refine st_iload_n dX6_apply_40 rfl ?_
    refine st_aload_n dX6_apply_41 rfl ?_
    refine st_getr (i' := 0) dX6_apply_42 fl_X6_55 rfl rfl rfl (fun _ => by decide) ?_
    refine fAt_v2 (x' := ((i.toNat : Nat) : Int)) (by omega) ?_
    refine st_callVi [vr 20 s.toNat, vi ((i.toNat : Nat) : Int), vr 17 0] [] dX6_apply_45 vl_X6_239 rfl rfl rfl rfl (Nat.le_of_ble_eq_true rfl) (by decide) (c_readNumbers_17 (i := i.toNat) hx.1 hx.2.1.1 hx.2.2.1.1 hx.2.2.1.2.1 (by omega)) (fun zb Mb qb => ?_)
    obtain ⟨qb, hSb⟩ := qb
    have hu : uS Ma Mb := fun k a b q1 q2 q3 q4 q5 q6 q7 q8 => hSb k a b q6
    have hgI := gI_k hx.2.2.2 hSb (by decide) (by decide)
    rcases qb with ⟨rfl, ab, eb⟩ | ⟨rfl, ab⟩
    · skip
      refine st_if_ne 54 dX6_apply_48 (by decide) (fun h48 => ?_) (fun h48 => ?_)
      · skip
        refine st_iconst dX6_apply_54 (by decide) ?_
        refine st_istore (ls' := [some (vr 0 0), some (vi s), some (vi la), some (vi i), some (vi (w : Int)), some (vi (rfs Ma s la i (2 * (w : Int)))), some (vi 0)]) dX6_apply_55 (by decide) rfl rfl ?_
        refine fAt_ls (ls' := [some (vr 0 0), some (vi s), some (vi la), some (vi i), some (vi (w : Int)), some (vi 0), some (vi ((0 : Nat) : Int))]) (by rw [h27]; rfl) ?_
        refine fAt_m (apM_0 Mb s.toNat (i.toNat + w) (rtS p w (eM Mb 0 w p) (Mb 17 0))).symm ?_
        refine fAt_q (fun r M' h => ?_) (apply_l (xOk_u hx hu hgI) hr.1 (by omega) (fun c hc => by rw [eb c hc]; exact ab c hc) w 0 (by omega))
        obtain ⟨z, e, h1, h2⟩ := h
        subst h2
        refine ⟨z, e, Or.inr ⟨h27, Or.inr ⟨ab, h1, fun k a b q1 q2 q3 q4 q5 q6 q7 q8 => ?_⟩⟩, gI_ap hgI⟩
        unfold apM
        by_cases q : k = 21 ∧ a = s.toNat ∧ i.toNat + w ≤ b ∧ b < i.toNat + w + w
        · rw [if_pos q, if_pos q]
          refine rtS_c (by omega) (fun a b ha hb => ?_) eb
          show ent p w (Mb 2 0 1) (Mb 3 0) a b = ent p w (Ma 2 0 1) (Ma 3 0) a b
          rw [hSb 2 0 1 (by decide), show Mb 3 0 = Ma 3 0 from funext fun q => hSb 3 0 q (by decide)]
        · rw [if_neg q, if_neg q]; exact hu k a b q1 q2 q3 q4 q5 q6 q7 q8
      · skip
        exact absurd h48 (by omega)
    · skip
      refine st_if_ne 54 dX6_apply_48 (by decide) (fun h48 => ?_) (fun h48 => ?_)
      · skip
        exact absurd rfl h48
      · skip
        refine st_bipush dX6_apply_51 (by decide) ?_
        refine st_ireturn dX6_apply_53 rfl ⟨_, rfl, ⟨Or.inr ⟨h27, Or.inl ⟨ab, rfl, hu⟩⟩, hgI⟩⟩
  · skip
    refine st_iload dX6_apply_30 rfl ?_
    refine st_ireturn dX6_apply_32 rfl ⟨_, rfl, ⟨Or.inl ⟨h27, rfl, uS_r _⟩, hx.2.2.2⟩⟩
set_option maxHeartbeats 4000000 in
set_option maxRecDepth 100000 in
theorem film_l {g : fG} {M : fM} {w : Nat} {s la i n : Int} (hw1 : 1 ≤ w ∧ w ≤ 6) (hs4 : 0 ≤ s ∧ s < 4) (hi : 0 ≤ i ∧ i + (w : Int) ≤ 24) (hn0 : 0 ≤ n) :
    ∀ (m c : Nat), c + m = w → fAt g Y_X6_film 50 [some (vr 0 0), some (vi s), some (vi la), some (vi i), some (vi (w : Int)), some (vi 0), some (vl n), none, some (vi (c : Int))] [] (apM M s.toNat i.toNat c (M 11 0)) (fI (fun z M' => z = (if 9 < n then 9 else n) ∧ M' = (apM M s.toNat i.toNat w (M 11 0)))) := by
  intro m
  induction m with
  | zero =>
    intro c hm
    refine st_iload dX6_film_50 rfl ?_
    refine st_iload dX6_film_52 rfl ?_
    refine st_icmp_ge 88 dX6_film_54 (by decide) (fun h54 => ?_) (fun h54 => ?_)
    · skip
      refine st_lload dX6_film_88 rfl ?_
      refine st_ldc2 (v := 9) (9) dX6_film_90 (ftb_in 652 (by decide +kernel) rfl) (by decide +kernel) ?_
      refine st_minl dX6_film_93 lb_min_X6 lb_min_s lb_math lb_min_c (by decide) (Nat.le_of_ble_eq_true rfl) ?_
      refine st_l2i dX6_film_96 (by split <;> omega) ?_
      refine st_ireturn dX6_film_97 rfl ⟨_, rfl, ⟨rfl, by rw [show c = w by omega]⟩⟩
    · skip
      exact absurd h54 (by omega)
  | succ m ih =>
    intro c hm
    refine st_iload dX6_film_50 rfl ?_
    refine st_iload dX6_film_52 rfl ?_
    refine st_icmp_ge 88 dX6_film_54 (by decide) (fun h54 => ?_) (fun h54 => ?_)
    · skip
      exact absurd h54 (by omega)
    · skip
      refine st_aload_n dX6_film_57 rfl ?_
      refine st_getr (i' := 0) dX6_film_58 fl_X6_63 rfl rfl rfl (fun _ => by decide) ?_
      refine st_iload_n dX6_film_61 rfl ?_
      refine st_aald (j := s.toNat) (i' := s.toNat) dX6_film_62 rfl rfl rfl rfl ⟨_, rfl, rfl⟩ (by omega) (show s.toNat < 4 from by omega) rfl (fun _ => show s.toNat < 4 from by omega) ?_
      refine st_getr (i' := s.toNat) dX6_film_63 fl_X6_246 rfl rfl rfl (fun h => h) ?_
      refine st_iload_n dX6_film_66 rfl ?_
      refine st_iload dX6_film_67 rfl ?_
      refine st_iadd dX6_film_69 (by omega) ?_
      refine st_aload_n dX6_film_70 rfl ?_
      refine st_getr (i' := 0) dX6_film_71 fl_X6_33 rfl rfl rfl (fun _ => by decide) ?_
      refine st_getr (i' := 0) dX6_film_74 fl_X6_179 rfl rfl rfl (fun _ => by decide) ?_
      refine st_iload dX6_film_77 rfl ?_
      refine st_iald (j := c) dX6_film_79 rfl rfl rfl rfl (by omega) ?_
      refine fAt_v (x' := M 11 0 c) rfl ?_
      refine st_i2l dX6_film_80 ?_
      refine st_last (j := (i.toNat + c)) dX6_film_81 rfl rfl rfl (by omega) (by omega) ?_
      refine fAt_m (apM_s M s.toNat i.toNat c (M 11 0)) ?_
      refine st_iinc (ls' := [some (vr 0 0), some (vi s), some (vi la), some (vi i), some (vi (w : Int)), some (vi 0), some (vl n), none, some (vi ((c : Int) + 1))]) dX6_film_82 rfl (by omega) (by decide) rfl rfl ?_
      refine st_goto 50 dX6_film_85 (by decide) ?_
      exact ih (c + 1) (by omega)
theorem SolZ_pos {p : Int} {w : Nat} {A : Nat → Nat → Int} {z : Int} {a : Nat → Int} (hp : 2 ≤ p) (h : SolZ p w A z a) : 0 ≤ z := by
  obtain ⟨k, h⟩ := h
  rcases h with ⟨rfl, -⟩ | ⟨rfl, -⟩
  · decide
  · have := pw_pos hp (w - k); omega
set_option maxHeartbeats 4000000 in
set_option maxRecDepth 100000 in
theorem c_film {g : fG} {M : fM} {w : Nat} {p : Int} (hx : xOk M w p) {s la i : Int} (hs : shL M) :
    fCi g Y_X6_film [vr 0 0, vi s, vi la, vi i] M (fun z M' => ((rfs M s la i (w : Int) ≠ 0 ∧ z = rfs M s la i (w : Int) ∧ uS M M') ∨ (rfs M s la i (w : Int) = 0 ∧ ∃ n a, SolZ p w (aug (eM M 0 w p) w (M 4 0)) n a ∧ ((n = 0 ∧ z = -4 ∧ uS M M') ∨ (n ≠ 0 ∧ z = (if 9 < n then 9 else n) ∧ uS (apM M s.toNat i.toNat w a) M')))) ∧ gI M') := by
  have hw1 := hx.2.2.1.2.1
  have hp2 := hx.2.1.1
  refine fCi_of _ [some (vr 0 0), some (vi s), some (vi la), some (vi i), none, none, none, none, none] (by decide) (Nat.le_of_ble_eq_true rfl) rfl (fun h => h) ?_
  refine st_aload_n dX6_film_0 rfl ?_
  refine st_getr (i' := 0) dX6_film_1 fl_X6_12 rfl rfl rfl (fun _ => by decide) ?_
  refine st_getr (i' := 0) dX6_film_4 fl_X6_76 rfl rfl rfl (fun _ => by decide) ?_
  refine st_get dX6_film_7 fl_X6_106 rfl rfl rfl ?_
  refine fAt_v (x' := (w : Int)) hx.2.2.1.1 ?_
  refine st_istore (ls' := [some (vr 0 0), some (vi s), some (vi la), some (vi i), some (vi (w : Int)), none, none, none, none]) dX6_film_10 (by decide) rfl rfl ?_
  refine st_aload_n dX6_film_12 rfl ?_
  refine st_iload_n dX6_film_13 rfl ?_
  refine st_iload_n dX6_film_14 rfl ?_
  refine st_iload_n dX6_film_15 rfl ?_
  refine st_iload dX6_film_16 rfl ?_
  refine st_callVi [vi s, vi la, vi i, vi (w : Int)] [] dX6_film_18 vl_X6_236 rfl rfl rfl rfl (Nat.le_of_ble_eq_true rfl) (by decide) (c_refusalOf hs) (fun z Ma qa => ?_)
  obtain ⟨rfl, rfl⟩ := qa
  refine st_istore (ls' := [some (vr 0 0), some (vi s), some (vi la), some (vi i), some (vi (w : Int)), some (vi (rfs Ma s la i (w : Int))), none, none, none]) dX6_film_21 (by decide) rfl rfl ?_
  refine st_iload dX6_film_23 rfl ?_
  refine st_if_eq 31 dX6_film_25 (by decide) (fun h25 => ?_) (fun h25 => ?_)
  · skip
    have hr := rfs_0 h25
    have hr24 := sh24 hs hr.1 hr.2.2.2.2.2.2
    refine st_aload_n dX6_film_31 rfl ?_
    refine st_callVl [] [] dX6_film_32 vl_X6_173 rfl rfl rfl rfl (Nat.le_of_ble_eq_true rfl) (by decide) (c_solveMatrix hx) (fun n Mb qb => ?_)
    obtain ⟨a, hz, ha, hS, hG⟩ := qb
    refine st_lstore (ls' := [some (vr 0 0), some (vi s), some (vi la), some (vi i), some (vi (w : Int)), some (vi (rfs Ma s la i (w : Int))), some (vl n), none, none]) dX6_film_35 (by decide) rfl rfl ?_
    refine st_lload dX6_film_37 rfl ?_
    refine st_lconst0 dX6_film_39 ?_
    refine st_lcmp dX6_film_40 ?_
    refine st_if_ne 47 dX6_film_41 (by decide) (fun h41 => ?_) (fun h41 => ?_)
    · skip
      have h41 : n ≠ 0 := fun q => h41 (fcmp_eq.mpr q)
      refine st_iconst dX6_film_47 (by decide) ?_
      refine st_istore (ls' := [some (vr 0 0), some (vi s), some (vi la), some (vi i), some (vi (w : Int)), some (vi (rfs Ma s la i (w : Int))), some (vl n), none, some (vi 0)]) dX6_film_48 (by decide) rfl rfl ?_
      refine fAt_ls (ls' := [some (vr 0 0), some (vi s), some (vi la), some (vi i), some (vi (w : Int)), some (vi 0), some (vl n), none, some (vi ((0 : Nat) : Int))]) (by rw [h25]; rfl) ?_
      refine fAt_m (apM_0 Mb s.toNat i.toNat (Mb 11 0)).symm ?_
      refine fAt_q (fun r M' h => ?_) (film_l hw1 hr.1 (by omega) (SolZ_pos hx.2.1.1.1 hz) w 0 (by omega))
      obtain ⟨z, e, h1, h2⟩ := h
      subst h2
      refine ⟨z, e, Or.inr ⟨h25, n, a, hz, Or.inr ⟨h41, h1, fun k b c q1 q2 q3 q4 q5 q6 q7 q8 => ?_⟩⟩, gI_ap hG⟩
      unfold apM
      by_cases q : k = 21 ∧ b = s.toNat ∧ i.toNat ≤ c ∧ c < i.toNat + w
      · rw [if_pos q, if_pos q]; exact ha _ (by omega)
      · rw [if_neg q, if_neg q]; exact hS k b c q1 q2 q3 q4
    · skip
      have h41 : n = 0 := fcmp_eq.mp h41
      refine st_bipush dX6_film_44 (by decide) ?_
      refine st_ireturn dX6_film_46 rfl ⟨_, rfl, ⟨Or.inr ⟨h25, n, a, hz, Or.inl ⟨h41, rfl, uS_g hS⟩⟩, hG⟩⟩
  · skip
    refine st_iload dX6_film_28 rfl ?_
    refine st_ireturn dX6_film_30 rfl ⟨_, rfl, ⟨Or.inl ⟨h25, rfl, uS_r _⟩, hx.2.2.2⟩⟩
