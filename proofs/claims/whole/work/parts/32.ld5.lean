/-- one turn of a drift -/
def dr1 (M : fM) (kn od w : Nat) (p : Int) : fM := drf (bkR M kn od) 0 w p
def dkn (kn : Nat) : Nat := if kn < 8 then kn + 1 else kn
def dod (kn od : Nat) : Nat := if kn < 8 then od else (od + 1) % 8
theorem dr1_b {M : fM} {kn od w : Nat} {p : Int} (hb : BkH M kn od) : BkH (dr1 M kn od w p) (dkn kn) (dod kn od) := by
  obtain ⟨h1, h2, h3, h4⟩ := hb
  refine ⟨?_, ?_, by unfold dkn; split <;> omega, by unfold dod; split <;> omega⟩
  · show bkR M kn od 1 0 1 = _
    unfold bkR dkn
    by_cases e : kn < 8
    · rw [if_pos ⟨rfl, rfl, rfl, e⟩, if_pos e]; omega
    · rw [if_neg (by omega), if_neg (by omega), if_neg e, stk_off (by omega)]; exact h1
  · show bkR M kn od 1 0 3 = _
    unfold bkR dod
    by_cases e : kn < 8
    · rw [if_neg (by omega), if_neg (by omega), if_pos e, stk_off (by omega)]; exact h2
    · rw [if_neg (by omega), if_pos ⟨rfl, rfl, rfl, by omega⟩, if_neg e]; omega
theorem dr1_s {M : fM} {kn od w : Nat} {p : Int} (hp : pOk p) (h : sOk M 0 w p) : sOk (dr1 M kn od w p) 0 w p := by
  obtain ⟨h1, h2, h3, h4, h5, h6⟩ := bkR_s (kn := kn) (od := od) h
  have hp2 := hp.1
  refine ⟨h1, h2, h3, fun q hq => ?_, h5, ?_⟩
  · unfold dr1 drf
    rw [if_neg (by omega)]
    split
    · exact modb (by omega)
    · exact h4 q hq
  · unfold dr1 drf
    rw [if_pos ⟨rfl, rfl, rfl⟩]
    have := modb (x := (bkR M kn od 2 0 2 * 1103515245 + 12345)) (p := 2147483648) (by decide)
    unfold dDr
    omega
theorem dr1_x {M : fM} {kn od w : Nat} {p : Int} (h : xOk M w p) : xOk (dr1 M kn od w p) w p :=
  xOk_of h bkR_p (dr1_s h.2.1 h.2.2.1) (fun b => show bkR M kn od 8 0 b = _ from bkR_k (by decide) (by decide) (by decide) (by decide)) (fun b => show bkR M kn od 12 0 b = _ from bkR_k (by decide) (by decide) (by decide) (by decide))
/-- n turns -/
def drN : Nat → fM → Nat → Nat → Nat → Int → fM
  | 0, M, _, _, _, _ => M
  | n + 1, M, kn, od, w, p => drN n (dr1 M kn od w p) (dkn kn) (dod kn od) w p
set_option maxHeartbeats 4000000 in
set_option maxRecDepth 100000 in
theorem drift_l {g : fG} {w n : Nat} {p : Int} (hn4 : n ≤ 40) :
    ∀ (m t : Nat) (M : fM) (kn od : Nat), t + m = n → xOk M w p → BkH M kn od → fAt g Y_X6_drift 15 [some (vr 0 0), some (vi (n : Int)), some (vi (t : Int))] [] M (fI (fun z M' => z = dt w (eM (drN m M kn od w p) 0 w p) % p ∧ gS (drN m M kn od w p) M' ∧ gI M')) := by
  intro m
  induction m with
  | zero =>
    intro t M kn od hn hx hb
    have e : t = n := by omega
    subst e
    refine st_iload_n dX6_drift_15 rfl ?_
    refine st_iload_n dX6_drift_16 rfl ?_
    refine st_icmp_ge 50 dX6_drift_17 (by decide) (fun h17 => ?_) (fun h17 => ?_)
    · skip
      refine st_aload_n dX6_drift_50 rfl ?_
      refine st_callVi [] [] dX6_drift_51 vl_X6_135 rfl rfl rfl rfl (Nat.le_of_ble_eq_true rfl) (by decide) (c_wholeCorner hx) (fun z Mw qw => ?_)
      refine st_ireturn dX6_drift_54 rfl ⟨_, rfl, qw⟩
    · skip
      exact absurd h17 (by omega)
  | succ m ih =>
    intro t M kn od hn hx hb
    refine st_iload_n dX6_drift_15 rfl ?_
    refine st_iload_n dX6_drift_16 rfl ?_
    refine st_icmp_ge 50 dX6_drift_17 (by decide) (fun h17 => ?_) (fun h17 => ?_)
    · skip
      exact absurd h17 (by omega)
    · skip
      refine st_aload_n dX6_drift_20 rfl ?_
      refine st_getr (i' := 0) dX6_drift_21 fl_X6_12 rfl rfl rfl (fun _ => by decide) ?_
      refine st_callVv [] [] dX6_drift_24 vl_X6_148 rfl rfl rfl rfl (Nat.le_of_ble_eq_true rfl) (by decide) (c_remember hb.1 hb.2.1 hb.2.2.1 hb.2.2.2) (fun Mr qr => ?_)
      subst qr
      refine st_aload_n dX6_drift_27 rfl ?_
      refine st_getr (i' := 0) dX6_drift_28 fl_X6_12 rfl rfl rfl (fun _ => by decide) ?_
      refine st_getr (i' := 0) dX6_drift_31 fl_X6_76 rfl rfl rfl (fun _ => by decide) ?_
      refine st_aload_n dX6_drift_34 rfl ?_
      refine st_getr (i' := 0) dX6_drift_35 fl_X6_12 rfl rfl rfl (fun _ => by decide) ?_
      refine st_get dX6_drift_38 fl_X6_72 rfl rfl rfl ?_
      refine fAt_v (x' := p) (bkR_p.trans hx.1) ?_
      refine st_callVv [vi p] [] dX6_drift_41 vl_X6_160 rfl rfl rfl rfl (Nat.le_of_ble_eq_true rfl) (by decide) (c_driftOnce (bkR_s hx.2.2.1).1 hx.2.2.1.2.1 hx.2.1.1 (bkR_s hx.2.2.1).2.2.2.2.2) (fun Ma qa => ?_)
      subst qa
      refine st_iinc (ls' := [some (vr 0 0), some (vi (n : Int)), some (vi ((t : Int) + 1))]) dX6_drift_44 rfl (by omega) (by decide) rfl rfl ?_
      refine st_goto 15 dX6_drift_47 (by decide) ?_
      exact ih (t + 1) (dr1 M kn od w p) (dkn kn) (dod kn od) (by omega) (dr1_x hx) (dr1_b hb)
set_option maxHeartbeats 4000000 in
set_option maxRecDepth 100000 in
theorem c_drift {g : fG} {M : fM} {w : Nat} {p : Int} (hx : xOk M w p) {kn od : Nat} (hb : BkH M kn od) {x : Int} :
    fCi g Y_X6_drift [vr 0 0, vi x] M (fun z M' => (¬ (1 ≤ x ∧ x ≤ 40) ∧ z = -1 ∧ M' = M) ∨ ((1 ≤ x ∧ x ≤ 40) ∧ z = dt w (eM (drN x.toNat M kn od w p) 0 w p) % p ∧ gS (drN x.toNat M kn od w p) M' ∧ gI M')) := by
  have hw1 := hx.2.2.1.2.1
  have hp2 := hx.2.1.1
  refine fCi_of _ [some (vr 0 0), some (vi x), none] (by decide) (Nat.le_of_ble_eq_true rfl) rfl (fun h => h) ?_
  refine st_iload_n dX6_drift_0 rfl ?_
  refine st_iconst dX6_drift_1 (by decide) ?_
  refine st_icmp_lt 11 dX6_drift_2 (by decide) (fun h2 => ?_) (fun h2 => ?_)
  · skip
    refine st_iconst dX6_drift_11 (by decide) ?_
    refine st_ireturn dX6_drift_12 rfl ⟨_, rfl, Or.inl ⟨by omega, rfl, rfl⟩⟩
  · skip
    refine st_iload_n dX6_drift_5 rfl ?_
    refine st_bipush dX6_drift_6 (by decide) ?_
    refine st_icmp_le 13 dX6_drift_8 (by decide) (fun h8 => ?_) (fun h8 => ?_)
    · skip
      refine st_iconst dX6_drift_13 (by decide) ?_
      refine st_istore_n (ls' := [some (vr 0 0), some (vi x), some (vi 0)]) dX6_drift_14 (by decide) rfl rfl ?_
      refine fAt_ls (ls' := [some (vr 0 0), some (vi ((x.toNat : Nat) : Int)), some (vi ((0 : Nat) : Int))]) (by rw [show ((x.toNat : Nat) : Int) = x by omega]; rfl) ?_
      refine fAt_q (fun r M' h => ?_) (drift_l (by omega) x.toNat 0 M kn od (by omega) hx hb)
      obtain ⟨z, e, h1, h2, h3⟩ := h
      exact ⟨z, e, Or.inr ⟨by omega, h1, h2, h3⟩⟩
    · skip
      refine st_iconst dX6_drift_11 (by decide) ?_
      refine st_ireturn dX6_drift_12 rfl ⟨_, rfl, Or.inl ⟨by omega, rfl, rfl⟩⟩
set_option maxHeartbeats 4000000 in
set_option maxRecDepth 100000 in
theorem c_corner {g : fG} {M : fM} {w : Nat} {p : Int} (hx : xOk M w p) {x : Int} :
    fCi g Y_X6_corner [vr 0 0, vi x] M (fun z M' => z = (if 0 ≤ x ∧ x ≤ (w : Int) then dt x.toNat (eM M 0 w p) % p else -1) ∧ gS M M' ∧ gI M') := by
  have hw1 := hx.2.2.1.2.1
  have hp2 := hx.2.1.1
  refine fCi_of _ [some (vr 0 0), some (vi x)] (by decide) (Nat.le_of_ble_eq_true rfl) rfl (fun h => h) ?_
  refine st_iload_n dX6_corner_0 rfl ?_
  refine st_if_lt 18 dX6_corner_1 (by decide) (fun h1 => ?_) (fun h1 => ?_)
  · skip
    refine st_iconst dX6_corner_18 (by decide) ?_
    refine st_ireturn dX6_corner_19 rfl ⟨_, rfl, ⟨by rw [if_neg (by omega)], gS_r M, hx.2.2.2⟩⟩
  · skip
    refine st_iload_n dX6_corner_4 rfl ?_
    refine st_aload_n dX6_corner_5 rfl ?_
    refine st_getr (i' := 0) dX6_corner_6 fl_X6_12 rfl rfl rfl (fun _ => by decide) ?_
    refine st_getr (i' := 0) dX6_corner_9 fl_X6_76 rfl rfl rfl (fun _ => by decide) ?_
    refine st_get dX6_corner_12 fl_X6_106 rfl rfl rfl ?_
    refine fAt_v (x' := (w : Int)) hx.2.2.1.1 ?_
    refine st_icmp_le 20 dX6_corner_15 (by decide) (fun h15 => ?_) (fun h15 => ?_)
    · skip
      refine st_aload_n dX6_corner_20 rfl ?_
      refine st_aload_n dX6_corner_21 rfl ?_
      refine st_getr (i' := 0) dX6_corner_22 fl_X6_12 rfl rfl rfl (fun _ => by decide) ?_
      refine st_getr (i' := 0) dX6_corner_25 fl_X6_76 rfl rfl rfl (fun _ => by decide) ?_
      refine fAt_rk 1 rfl (fun _ => ?_)
      refine fAt_ls (ls' := [some (vr 0 0), some (vi ((x.toNat : Nat) : Int))]) (by rw [show ((x.toNat : Nat) : Int) = x by omega]) ?_
      refine st_iload_n dX6_corner_28 rfl ?_
      refine st_callVi [vr 2 0, vi ((x.toNat : Nat) : Int)] [] dX6_corner_29 vl_X6_167 rfl rfl rfl rfl (Nat.le_of_ble_eq_true rfl) (by decide) (c_cornerOf hx.1 hx.2.1 hx.2.2.1 hx.2.2.2 (by omega)) (fun z Mc qc => ?_)
      refine st_ireturn dX6_corner_32 rfl ⟨_, rfl, ⟨by rw [if_pos (by omega)]; exact qc.1, qc.2⟩⟩
    · skip
      refine st_iconst dX6_corner_18 (by decide) ?_
      refine st_ireturn dX6_corner_19 rfl ⟨_, rfl, ⟨by rw [if_neg (by omega)], gS_r M, hx.2.2.2⟩⟩
/-- how many more rows to the next corner that is not 0 -/
def LpS (f : Nat → Int) (w k : Nat) (z : Int) : Prop := (z = -4 ∧ ∀ q, k < q → q ≤ w → f q = 0) ∨ ∃ s, k < s ∧ s ≤ w ∧ f s ≠ 0 ∧ (∀ q, k < q → q < s → f q = 0) ∧ z = ((s - k : Nat) : Int)
theorem LpS_one {f f' : Nat → Int} {w k : Nat} {z z' : Int} (e : ∀ q, q ≤ w → f q = f' q) (h : LpS f w k z) (h' : LpS f' w k z') : z = z' := by
  rcases h with ⟨h1, h2⟩ | ⟨s, s1, s2, s3, s4, s5⟩ <;> rcases h' with ⟨k1, k2⟩ | ⟨t, t1, t2, t3, t4, t5⟩
  · rw [h1, k1]
  · exact absurd ((e t t2).symm.trans (h2 t t1 t2)) t3
  · exact absurd ((e s s2).trans (k2 s s1 s2)) s3
  · have : s = t := by
      rcases Nat.lt_trichotomy s t with q | q | q
      · exact absurd ((e s s2).trans (t4 s s1 q)) s3
      · exact q
      · exact absurd ((e t t2).symm.trans (s4 t t1 q)) t3
    rw [s5, t5, this]
set_option maxHeartbeats 4000000 in
set_option maxRecDepth 100000 in
theorem leap_l {g : fG} {M : fM} {w : Nat} {p : Int} (hx : xOk M w p) {k : Nat} :
    ∀ (n s : Nat) (Nn : fM), s + n = w + 1 → k < s → (∀ q, k < q → q < s → dt q (eM M 0 w p) % p = 0) → gS M Nn → gI Nn → fAt g Y_X6_leap 14 [some (vr 0 0), some (vi (k : Int)), some (vi (s : Int))] [] Nn (fI (fun z M' => LpS (fun q => dt q (eM M 0 w p) % p) w k z ∧ gS M M' ∧ gI M')) := by
  have hw1 := hx.2.2.1.2.1
  have hp2 := hx.2.1.1
  intro n
  induction n with
  | zero =>
    intro s Nn hn hks h0 hS hG
    have hx1 := xOk_S hx hS hG
    refine st_iload_n dX6_leap_14 rfl ?_
    refine st_aload_n dX6_leap_15 rfl ?_
    refine st_getr (i' := 0) dX6_leap_16 fl_X6_12 rfl rfl rfl (fun _ => by decide) ?_
    refine st_getr (i' := 0) dX6_leap_19 fl_X6_76 rfl rfl rfl (fun _ => by decide) ?_
    refine st_get dX6_leap_22 fl_X6_106 rfl rfl rfl ?_
    refine fAt_v (x' := (w : Int)) hx1.2.2.1.1 ?_
    refine st_icmp_gt 53 dX6_leap_25 (by decide) (fun h25 => ?_) (fun h25 => ?_)
    · skip
      refine st_bipush dX6_leap_53 (by decide) ?_
      refine st_ireturn dX6_leap_55 rfl ⟨_, rfl, ⟨Or.inl ⟨rfl, fun q h1 h2 => h0 q h1 (by omega)⟩, hS, hG⟩⟩
    · skip
      exact absurd h25 (by omega)
  | succ n ih =>
    intro s Nn hn hks h0 hS hG
    have hx1 := xOk_S hx hS hG
    refine st_iload_n dX6_leap_14 rfl ?_
    refine st_aload_n dX6_leap_15 rfl ?_
    refine st_getr (i' := 0) dX6_leap_16 fl_X6_12 rfl rfl rfl (fun _ => by decide) ?_
    refine st_getr (i' := 0) dX6_leap_19 fl_X6_76 rfl rfl rfl (fun _ => by decide) ?_
    refine st_get dX6_leap_22 fl_X6_106 rfl rfl rfl ?_
    refine fAt_v (x' := (w : Int)) hx1.2.2.1.1 ?_
    refine st_icmp_gt 53 dX6_leap_25 (by decide) (fun h25 => ?_) (fun h25 => ?_)
    · skip
      exact absurd h25 (by omega)
    · skip
      refine st_aload_n dX6_leap_28 rfl ?_
      refine st_aload_n dX6_leap_29 rfl ?_
      refine st_getr (i' := 0) dX6_leap_30 fl_X6_12 rfl rfl rfl (fun _ => by decide) ?_
      refine st_getr (i' := 0) dX6_leap_33 fl_X6_76 rfl rfl rfl (fun _ => by decide) ?_
      refine st_iload_n dX6_leap_36 rfl ?_
      refine st_callVi [vr 2 0, vi (s : Int)] [] dX6_leap_37 vl_X6_167 rfl rfl rfl rfl (Nat.le_of_ble_eq_true rfl) (by decide) (c_cornerOf hx1.1 hx1.2.1 hx1.2.2.1 hx1.2.2.2 (by omega)) (fun z Mc qc => ?_)
      obtain ⟨rfl, hS2, hG2⟩ := qc
      rw [eM_S hS]
      refine st_if_eq 47 dX6_leap_40 (by decide) (fun h40 => ?_) (fun h40 => ?_)
      · skip
        have hz := h40
        refine st_iinc (ls' := [some (vr 0 0), some (vi (k : Int)), some (vi ((s : Int) + 1))]) dX6_leap_47 rfl (by omega) (by decide) rfl rfl ?_
        refine st_goto 14 dX6_leap_50 (by decide) ?_
        exact ih (s + 1) Mc (by omega) (by omega) (fun q h1 h2 => by
          by_cases e : q = s
          · rw [e]; exact hz
          · exact h0 q h1 (by omega)) (gS_t hS hS2) hG2
      · skip
        have hz := h40
        refine st_iload_n dX6_leap_43 rfl ?_
        refine st_iload_n dX6_leap_44 rfl ?_
        refine st_isub dX6_leap_45 (by omega) ?_
        refine st_ireturn dX6_leap_46 rfl ⟨_, rfl, ⟨Or.inr ⟨s, by omega, by omega, hz, h0, by omega⟩, gS_t hS hS2, hG2⟩⟩
set_option maxHeartbeats 4000000 in
set_option maxRecDepth 100000 in
theorem c_leap {g : fG} {M : fM} {w : Nat} {p : Int} (hx : xOk M w p) {x : Int} :
    fCi g Y_X6_leap [vr 0 0, vi x] M (fun z M' => ((¬ (0 ≤ x ∧ x < (w : Int)) ∧ z = -1) ∨ ((0 ≤ x ∧ x < (w : Int)) ∧ LpS (fun q => dt q (eM M 0 w p) % p) w x.toNat z)) ∧ gS M M' ∧ gI M') := by
  have hw1 := hx.2.2.1.2.1
  have hp2 := hx.2.1.1
  refine fCi_of _ [some (vr 0 0), some (vi x), none] (by decide) (Nat.le_of_ble_eq_true rfl) rfl (fun h => h) ?_
  refine st_aload_n dX6_leap_0 rfl ?_
  refine st_iload_n dX6_leap_1 rfl ?_
  refine st_callVi [vi x] [] dX6_leap_2 vl_X6_115 rfl rfl rfl rfl (Nat.le_of_ble_eq_true rfl) (by decide) (c_isWithin hx.2.2.1.1 hx.2.2.1.2.1) (fun za Ma qa => ?_)
  obtain ⟨qa, rfl⟩ := qa
  rcases qa with ⟨rfl, aa⟩ | ⟨rfl, aa⟩
  · skip
    refine st_if_ne 10 dX6_leap_5 (by decide) (fun h5 => ?_) (fun h5 => ?_)
    · skip
      refine st_iload_n dX6_leap_10 rfl ?_
      refine st_iconst dX6_leap_11 (by decide) ?_
      refine st_iadd dX6_leap_12 (by omega) ?_
      refine st_istore_n (ls' := [some (vr 0 0), some (vi x), some (vi (x + 1))]) dX6_leap_13 (by decide) rfl rfl ?_
      refine fAt_ls (ls' := [some (vr 0 0), some (vi ((x.toNat : Nat) : Int)), some (vi ((x.toNat + 1 : Nat) : Int))]) (by rw [show ((x.toNat : Nat) : Int) = x by omega, show ((x.toNat + 1 : Nat) : Int) = x + 1 by omega]) ?_
      refine fAt_q (fun r M' h => ?_) (leap_l hx (w - x.toNat) (x.toNat + 1) Ma (by omega) (by omega) (fun q h1 h2 => absurd h2 (by omega)) (gS_r Ma) hx.2.2.2)
      obtain ⟨z, e, h1, h2⟩ := h
      exact ⟨z, e, Or.inr ⟨aa, h1⟩, h2⟩
    · skip
      exact absurd h5 (by omega)
  · skip
    refine st_if_ne 10 dX6_leap_5 (by decide) (fun h5 => ?_) (fun h5 => ?_)
    · skip
      exact absurd h5 (by omega)
    · skip
      refine st_iconst dX6_leap_8 (by decide) ?_
      refine st_ireturn dX6_leap_9 rfl ⟨_, rfl, ⟨Or.inl ⟨aa, rfl⟩, gS_r _, hx.2.2.2⟩⟩
/-- what solved answers -/
def SvS (p : Int) (w : Nat) (A : Nat → Nat → Int) (x z : Int) : Prop := ∃ n a, SolZ p w A n a ∧ ((x = -1 ∧ z = n) ∨ (x ≠ -1 ∧ n = 0 ∧ z = -4) ∨ (x ≠ -1 ∧ n ≠ 0 ∧ z = a x.toNat))
set_option maxHeartbeats 4000000 in
set_option maxRecDepth 100000 in
theorem c_solved {g : fG} {M : fM} {w : Nat} {p : Int} (hx : xOk M w p) {x : Int} :
    fCl g Y_X6_solved [vr 0 0, vi x] M (fun z M' => ((¬ (x = -1 ∨ (0 ≤ x ∧ x < (w : Int))) ∧ z = -1) ∨ ((x = -1 ∨ (0 ≤ x ∧ x < (w : Int))) ∧ SvS p w (aug (eM M 0 w p) w (M 4 0)) x z)) ∧ gS M M' ∧ gI M') := by
  have hw1 := hx.2.2.1.2.1
  have hp2 := hx.2.1.1
  refine fCl_of _ [some (vr 0 0), some (vi x), none, none] (by decide) (Nat.le_of_ble_eq_true rfl) rfl (fun h => h) ?_
  refine st_iload_n dX6_solved_0 rfl ?_
  refine st_iconst dX6_solved_1 (by decide) ?_
  refine st_icmp_eq 17 dX6_solved_2 (by decide) (fun h2 => ?_) (fun h2 => ?_)
  · skip
    refine st_aload_n dX6_solved_17 rfl ?_
    refine st_callVl [] [] dX6_solved_18 vl_X6_173 rfl rfl rfl rfl (Nat.le_of_ble_eq_true rfl) (by decide) (c_solveMatrix hx) (fun z Mb qb => ?_)
    obtain ⟨a, hz, ha, hS, hG⟩ := qb
    refine st_lstore_n (ls' := [some (vr 0 0), some (vi x), some (vl z), none]) dX6_solved_21 (by decide) rfl rfl ?_
    refine st_iload_n dX6_solved_22 rfl ?_
    refine st_iconst dX6_solved_23 (by decide) ?_
    refine st_icmp_ne 29 dX6_solved_24 (by decide) (fun h24 => ?_) (fun h24 => ?_)
    · skip
      refine st_lload_n dX6_solved_29 rfl ?_
      refine st_lconst0 dX6_solved_30 ?_
      refine st_lcmp dX6_solved_31 ?_
      refine st_if_ne 41 dX6_solved_32 (by decide) (fun h32 => ?_) (fun h32 => ?_)
      · skip
        have h32 : z ≠ 0 := fun q => h32 (fcmp_eq.mpr q)
        refine st_aload_n dX6_solved_41 rfl ?_
        refine st_getr (i' := 0) dX6_solved_42 fl_X6_33 rfl rfl rfl (fun _ => by decide) ?_
        refine st_getr (i' := 0) dX6_solved_45 fl_X6_179 rfl rfl rfl (fun _ => by decide) ?_
        refine st_iload_n dX6_solved_48 rfl ?_
        refine st_iald (j := x.toNat) dX6_solved_49 rfl rfl rfl (by omega) (by omega) ?_
        refine fAt_v (x' := a x.toNat) (ha _ (by omega)) ?_
        refine st_i2l dX6_solved_50 ?_
        refine st_lreturn dX6_solved_51 rfl ⟨_, rfl, ?_⟩
        first | exact ⟨Or.inr ⟨by omega, z, a, hz, Or.inr (Or.inl ⟨by omega, h32, rfl⟩)⟩, hS, hG⟩ | exact ⟨Or.inr ⟨by omega, z, a, hz, Or.inr (Or.inr ⟨by omega, h32, rfl⟩)⟩, hS, hG⟩
      · skip
        have h32 : z = 0 := fcmp_eq.mp h32
        refine st_ldc2 (v := -4) (-4) dX6_solved_35 (ftb_in 536 (by decide +kernel) rfl) (by decide +kernel) ?_
        refine st_goto 51 dX6_solved_38 (by decide) ?_
        refine st_lreturn dX6_solved_51 rfl ⟨_, rfl, ?_⟩
        first | exact ⟨Or.inr ⟨by omega, z, a, hz, Or.inr (Or.inl ⟨by omega, h32, rfl⟩)⟩, hS, hG⟩ | exact ⟨Or.inr ⟨by omega, z, a, hz, Or.inr (Or.inr ⟨by omega, h32, rfl⟩)⟩, hS, hG⟩
    · skip
      refine st_lload_n dX6_solved_27 rfl ?_
      refine st_lreturn dX6_solved_28 rfl ⟨_, rfl, ⟨Or.inr ⟨by omega, z, a, hz, Or.inl ⟨by omega, rfl⟩⟩, hS, hG⟩⟩
  · skip
    refine st_aload_n dX6_solved_5 rfl ?_
    refine st_iload_n dX6_solved_6 rfl ?_
    refine st_callVi [vi x] [] dX6_solved_7 vl_X6_115 rfl rfl rfl rfl (Nat.le_of_ble_eq_true rfl) (by decide) (c_isWithin hx.2.2.1.1 hx.2.2.1.2.1) (fun za Ma qa => ?_)
    obtain ⟨qa, rfl⟩ := qa
    rcases qa with ⟨rfl, aa⟩ | ⟨rfl, aa⟩
    · skip
      refine st_if_ne 17 dX6_solved_10 (by decide) (fun h10 => ?_) (fun h10 => ?_)
      · skip
        refine st_aload_n dX6_solved_17 rfl ?_
        refine st_callVl [] [] dX6_solved_18 vl_X6_173 rfl rfl rfl rfl (Nat.le_of_ble_eq_true rfl) (by decide) (c_solveMatrix hx) (fun z Mb qb => ?_)
        obtain ⟨a, hz, ha, hS, hG⟩ := qb
        refine st_lstore_n (ls' := [some (vr 0 0), some (vi x), some (vl z), none]) dX6_solved_21 (by decide) rfl rfl ?_
        refine st_iload_n dX6_solved_22 rfl ?_
        refine st_iconst dX6_solved_23 (by decide) ?_
        refine st_icmp_ne 29 dX6_solved_24 (by decide) (fun h24 => ?_) (fun h24 => ?_)
        · skip
          refine st_lload_n dX6_solved_29 rfl ?_
          refine st_lconst0 dX6_solved_30 ?_
          refine st_lcmp dX6_solved_31 ?_
          refine st_if_ne 41 dX6_solved_32 (by decide) (fun h32 => ?_) (fun h32 => ?_)
          · skip
            have h32 : z ≠ 0 := fun q => h32 (fcmp_eq.mpr q)
            refine st_aload_n dX6_solved_41 rfl ?_
            refine st_getr (i' := 0) dX6_solved_42 fl_X6_33 rfl rfl rfl (fun _ => by decide) ?_
            refine st_getr (i' := 0) dX6_solved_45 fl_X6_179 rfl rfl rfl (fun _ => by decide) ?_
            refine st_iload_n dX6_solved_48 rfl ?_
            refine st_iald (j := x.toNat) dX6_solved_49 rfl rfl rfl (by omega) (by omega) ?_
            refine fAt_v (x' := a x.toNat) (ha _ (by omega)) ?_
            refine st_i2l dX6_solved_50 ?_
            refine st_lreturn dX6_solved_51 rfl ⟨_, rfl, ?_⟩
            first | exact ⟨Or.inr ⟨by omega, z, a, hz, Or.inr (Or.inl ⟨by omega, h32, rfl⟩)⟩, hS, hG⟩ | exact ⟨Or.inr ⟨by omega, z, a, hz, Or.inr (Or.inr ⟨by omega, h32, rfl⟩)⟩, hS, hG⟩
          · skip
            have h32 : z = 0 := fcmp_eq.mp h32
            refine st_ldc2 (v := -4) (-4) dX6_solved_35 (ftb_in 536 (by decide +kernel) rfl) (by decide +kernel) ?_
            refine st_goto 51 dX6_solved_38 (by decide) ?_
            refine st_lreturn dX6_solved_51 rfl ⟨_, rfl, ?_⟩
            first | exact ⟨Or.inr ⟨by omega, z, a, hz, Or.inr (Or.inl ⟨by omega, h32, rfl⟩)⟩, hS, hG⟩ | exact ⟨Or.inr ⟨by omega, z, a, hz, Or.inr (Or.inr ⟨by omega, h32, rfl⟩)⟩, hS, hG⟩
        · skip
          refine st_lload_n dX6_solved_27 rfl ?_
          refine st_lreturn dX6_solved_28 rfl ⟨_, rfl, ⟨Or.inr ⟨by omega, z, a, hz, Or.inl ⟨by omega, rfl⟩⟩, hS, hG⟩⟩
      · skip
        exact absurd h10 (by omega)
    · skip
      refine st_if_ne 17 dX6_solved_10 (by decide) (fun h10 => ?_) (fun h10 => ?_)
      · skip
        exact absurd h10 (by omega)
      · skip
        refine st_ldc2 (v := -1) (-1) dX6_solved_13 (ftb_in 528 (by decide +kernel) rfl) (by decide +kernel) ?_
        refine st_lreturn dX6_solved_16 rfl ⟨_, rfl, ⟨Or.inl ⟨by omega, rfl⟩, gS_r _, hx.2.2.2⟩⟩
set_option maxHeartbeats 4000000 in
set_option maxRecDepth 100000 in
theorem c_term {g : fG} {M : fM} {w : Nat} {p : Int} (hx : xOk M w p) {x : Int} :
    fCi g Y_X6_term [vr 0 0, vi x] M (fun z M' => (∃ l a, LawS p (M 3 0) (2 * w - 1) l a ∧ z = (if 1 ≤ x ∧ x ≤ ((l : Nat) : Int) then a (x.toNat - 1) else -1)) ∧ gS M M' ∧ gI M') := by
  have hw1 := hx.2.2.1.2.1
  have hp2 := hx.2.1.1
  refine fCi_of _ [some (vr 0 0), some (vi x), none] (by decide) (Nat.le_of_ble_eq_true rfl) rfl (fun h => h) ?_
  refine st_aload_n dX6_term_0 rfl ?_
  refine st_callVi [] [] dX6_term_1 vl_X6_138 rfl rfl rfl rfl (Nat.le_of_ble_eq_true rfl) (by decide) (c_findLaw hx) (fun z Ma qa => ?_)
  obtain ⟨l, rfl, hL, hS, hG⟩ := qa
  have hl := hL.1
  refine st_istore_n (ls' := [some (vr 0 0), some (vi x), some (vi (l : Int))]) dX6_term_4 (by decide) rfl rfl ?_
  refine st_iload_n dX6_term_5 rfl ?_
  refine st_iconst dX6_term_6 (by decide) ?_
  refine st_icmp_lt 15 dX6_term_7 (by decide) (fun h7 => ?_) (fun h7 => ?_)
  · skip
    refine st_iconst dX6_term_15 (by decide) ?_
    refine st_goto 30 dX6_term_16 (by decide) ?_
    refine st_ireturn dX6_term_30 rfl ⟨_, rfl, ⟨⟨l, _, hL, ?_⟩, hS, hG⟩⟩
    first | rw [if_pos (by omega)] | rw [if_neg (by omega)]
  · skip
    refine st_iload_n dX6_term_10 rfl ?_
    refine st_iload_n dX6_term_11 rfl ?_
    refine st_icmp_le 19 dX6_term_12 (by decide) (fun h12 => ?_) (fun h12 => ?_)
    · skip
      refine st_aload_n dX6_term_19 rfl ?_
      refine st_getr (i' := 0) dX6_term_20 fl_X6_33 rfl rfl rfl (fun _ => by decide) ?_
      refine st_getr (i' := 0) dX6_term_23 fl_X6_179 rfl rfl rfl (fun _ => by decide) ?_
      refine st_iload_n dX6_term_26 rfl ?_
      refine st_iconst dX6_term_27 (by decide) ?_
      refine st_isub dX6_term_28 (by omega) ?_
      refine st_iald (j := (x.toNat - 1)) dX6_term_29 rfl rfl rfl (by omega) (by omega) ?_
      refine st_ireturn dX6_term_30 rfl ⟨_, rfl, ⟨⟨l, _, hL, ?_⟩, hS, hG⟩⟩
      first | rw [if_pos (by omega)] | rw [if_neg (by omega)]
    · skip
      refine st_iconst dX6_term_15 (by decide) ?_
      refine st_goto 30 dX6_term_16 (by decide) ?_
      refine st_ireturn dX6_term_30 rfl ⟨_, rfl, ⟨⟨l, _, hL, ?_⟩, hS, hG⟩⟩
      first | rw [if_pos (by omega)] | rw [if_neg (by omega)]
