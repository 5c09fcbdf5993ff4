/-! ===== inverse, weak, mend, next, count ===== -/
def unt (y : Nat) : Nat → Int := fun i => if i = y then 1 else 0
/-- what inverse answers -/
def IvS (p : Int) (w : Nat) (E : Nat → Nat → Int) (x y : Nat) (z : Int) : Prop := (dt w E % p = 0 ∧ z = -4) ∨ (dt w E % p ≠ 0 ∧ ∃ a, Least p w w (aug E w (unt y)) a ∧ z = a x)
theorem IvS_one {p : Int} {w x y : Nat} {E : Nat → Nat → Int} {z z' : Int} (hx : x < w) (h : IvS p w E x y z) (h' : IvS p w E x y z') : z = z' := by
  rcases h with ⟨h1, h2⟩ | ⟨h1, a, h2, h3⟩ <;> rcases h' with ⟨k1, k2⟩ | ⟨k1, b, k2, k3⟩
  · rw [h2, k2]
  · exact absurd h1 k1
  · exact absurd k1 h1
  · rw [h3, k3, Least_one h2 k2 x hx]
set_option maxHeartbeats 4000000 in
set_option maxRecDepth 100000 in
theorem inverse_l {g : fG} {M : fM} {w : Nat} {p : Int} (hx : xOk M w p) {x y : Nat} {f : Nat → Int} {C1 : Nat → Nat → Int} (hxw : x < w) (hyw : y < w) (hg1 : gOk p (wG M p f)) (hC1 : ∀ a b, a < w → b < w → C1 a b = eM M 0 w p a b) (hd : dt w (eM M 0 w p) % p ≠ 0) :
    ∀ (n r : Nat), r + n = w → fAt g Y_X6_inverse 64 [some (vr 0 0), some (vi (x : Int)), some (vi (y : Int)), some (vi (w : Int)), some (vi (r : Int))] [] (wC (wG M p f) (sC C1 w (unt y) r)) (fI (fun z M' => IvS p w (eM M 0 w p) x y z ∧ gS M M' ∧ gI M')) := by
  have hw1 := hx.2.2.1.2.1
  have hp2 := hx.2.1.1
  intro n
  induction n with
  | zero =>
    intro r hn
    have e : r = w := by omega
    subst r
    refine st_iload dX6_inverse_64 rfl ?_
    refine st_iload_n dX6_inverse_66 rfl ?_
    refine st_icmp_ge 99 dX6_inverse_67 (by decide) (fun h67 => ?_) (fun h67 => ?_)
    · skip
      have hA : ∀ i j, i < w → j ≤ w → sC C1 w (unt y) w i j = aug (eM M 0 w p) w (unt y) i j := by
        intro i j hi hj
        unfold sC aug
        by_cases e : j < w
        · rw [if_neg (by omega), if_pos e]; exact hC1 i j hi e
        · rw [if_pos ⟨hi, by omega⟩, if_neg e]
      have hun : ∀ i, i < w → 0 ≤ unt y i ∧ unt y i < p := by
        intro i _
        unfold unt
        split <;> omega
      have hAr : ∀ i j, i < w → j < w + 1 → 0 ≤ sC C1 w (unt y) w i j ∧ sC C1 w (unt y) w i j < p := by
        intro i j hi hj
        rw [hA i j hi (by omega)]
        exact aug_rng (fun a b ha hb => eM_rng hx.2.1 hx.2.2.1 ha hb) hun i j hi hj
      refine fAt_m (wA_in _ _) ?_
      refine st_aload_n dX6_inverse_99 rfl ?_
      refine st_getr (i' := 0) dX6_inverse_100 fl_X6_33 rfl rfl rfl (fun _ => by decide) ?_
      refine st_iload_n dX6_inverse_103 rfl ?_
      refine st_iload_n dX6_inverse_104 rfl ?_
      refine st_callVi [vi (w : Int), vi (w : Int)] [] dX6_inverse_105 vl_X6_190 rfl rfl rfl rfl (Nat.le_of_ble_eq_true rfl) (by decide) (c_solveLeast (p := p) (a := (wG M p f) 11 0) hg1 (by omega) (by omega) hAr) (fun z M3 q3 => ?_)
      obtain ⟨C3, a3, k3, rfl, q3⟩ := q3
      refine st_pop dX6_inverse_108 rfl ?_
      refine st_aload_n dX6_inverse_109 rfl ?_
      refine st_getr (i' := 0) dX6_inverse_110 fl_X6_33 rfl rfl rfl (fun _ => by decide) ?_
      refine st_getr (i' := 0) dX6_inverse_113 fl_X6_179 rfl rfl rfl (fun _ => by decide) ?_
      refine st_iload_n dX6_inverse_116 rfl ?_
      refine st_iald (j := x) dX6_inverse_117 rfl rfl rfl rfl (by omega) ?_
      refine fAt_v (x' := a3 x) (wA_at _ _ _ _) ?_
      refine st_ireturn dX6_inverse_118 rfl ⟨_, rfl, ?_⟩
      rcases q3 with ⟨-, hL⟩ | ⟨-, hL⟩
      · have h1 := rank_det hx.2.1 (fun i j hi hj => eM_rng hx.2.1 hx.2.2.1 hi hj) hun (LSpec_congr hA hL)
        exact absurd (h1.2 (h1.1.mpr hd)) id
      · exact ⟨Or.inr ⟨hd, a3, (LSpec_congr hA hL).2.2 trivial, rfl⟩, gS_wa, gI_w hg1⟩
    · skip
      exact absurd h67 (by omega)
  | succ n ih =>
    intro r hn
    refine st_iload dX6_inverse_64 rfl ?_
    refine st_iload_n dX6_inverse_66 rfl ?_
    refine st_icmp_ge 99 dX6_inverse_67 (by decide) (fun h67 => ?_) (fun h67 => ?_)
    · skip
      exact absurd h67 (by omega)
    · skip
      refine st_aload_n dX6_inverse_70 rfl ?_
      refine st_getr (i' := 0) dX6_inverse_71 fl_X6_33 rfl rfl rfl (fun _ => by decide) ?_
      refine st_getr (i' := 0) dX6_inverse_74 fl_X6_186 rfl rfl rfl (fun _ => by decide) ?_
      refine st_iload dX6_inverse_77 rfl ?_
      refine st_aald (j := r) (i' := r) dX6_inverse_79 rfl rfl rfl rfl ⟨_, rfl, rfl⟩ rfl (show r < 11 from by omega) rfl (fun _ => show r < 11 from by omega) ?_
      refine st_iload_n dX6_inverse_80 rfl ?_
      refine st_iload dX6_inverse_81 rfl ?_
      refine st_iload_n dX6_inverse_83 rfl ?_
      refine st_icmp_ne 91 dX6_inverse_84 (by decide) (fun h84 => ?_) (fun h84 => ?_)
      · skip
        refine st_iconst dX6_inverse_91 (by decide) ?_
        refine fAt_v (x' := unt y r) (by unfold unt; first | rw [if_pos (by omega)] | rw [if_neg (by omega)]) ?_
        refine st_iast (j := w) dX6_inverse_92 rfl rfl rfl rfl (by omega) ?_
        refine fAt_m (wC_up _ _ _ _ _) ?_
        refine fAt_m (congrArg (wC (wG M p f)) (sC_s C1 w (unt y) r)) ?_
        refine st_iinc (ls' := [some (vr 0 0), some (vi (x : Int)), some (vi (y : Int)), some (vi (w : Int)), some (vi ((r : Int) + 1))]) dX6_inverse_93 rfl (by omega) (by decide) rfl rfl ?_
        refine st_goto 64 dX6_inverse_96 (by decide) ?_
        exact ih (r + 1) (by omega)
      · skip
        refine st_iconst dX6_inverse_87 (by decide) ?_
        refine st_goto 92 dX6_inverse_88 (by decide) ?_
        refine fAt_v (x' := unt y r) (by unfold unt; first | rw [if_pos (by omega)] | rw [if_neg (by omega)]) ?_
        refine st_iast (j := w) dX6_inverse_92 rfl rfl rfl rfl (by omega) ?_
        refine fAt_m (wC_up _ _ _ _ _) ?_
        refine fAt_m (congrArg (wC (wG M p f)) (sC_s C1 w (unt y) r)) ?_
        refine st_iinc (ls' := [some (vr 0 0), some (vi (x : Int)), some (vi (y : Int)), some (vi (w : Int)), some (vi ((r : Int) + 1))]) dX6_inverse_93 rfl (by omega) (by decide) rfl rfl ?_
        refine st_goto 64 dX6_inverse_96 (by decide) ?_
        exact ih (r + 1) (by omega)
theorem gS_c {M Mw : fM} {w : Nat} {p : Int} {C1 : Nat → Nat → Int} (hS : gS M Mw) (h : ∀ a b, a < w → b < w → C1 a b = eM Mw 0 w p a b) : ∀ a b, a < w → b < w → C1 a b = eM M 0 w p a b := fun a b ha hb => by rw [h a b ha hb, eM_S hS]
set_option maxHeartbeats 4000000 in
set_option maxRecDepth 100000 in
theorem c_inverse {g : fG} {M : fM} {w : Nat} {p : Int} (hx : xOk M w p) {x y : Int} :
    fCi g Y_X6_inverse [vr 0 0, vi x, vi y] M (fun z M' => ((¬ ((0 ≤ x ∧ x < (w : Int)) ∧ (0 ≤ y ∧ y < (w : Int))) ∧ z = -1) ∨ (((0 ≤ x ∧ x < (w : Int)) ∧ (0 ≤ y ∧ y < (w : Int))) ∧ IvS p w (eM M 0 w p) x.toNat y.toNat z)) ∧ gS M M' ∧ gI M') := by
  have hw1 := hx.2.2.1.2.1
  have hp2 := hx.2.1.1
  refine fCi_of _ [some (vr 0 0), some (vi x), some (vi y), none, none] (by decide) (Nat.le_of_ble_eq_true rfl) rfl (fun h => h) ?_
  refine st_aload_n dX6_inverse_0 rfl ?_
  refine st_iload_n dX6_inverse_1 rfl ?_
  refine st_callVi [vi x] [] dX6_inverse_2 vl_X6_115 rfl rfl rfl rfl (Nat.le_of_ble_eq_true rfl) (by decide) (c_isWithin hx.2.2.1.1 hx.2.2.1.2.1) (fun za Ma qa => ?_)
  obtain ⟨qa, rfl⟩ := qa
  rcases qa with ⟨rfl, aa⟩ | ⟨rfl, aa⟩
  · skip
    refine st_if_eq 16 dX6_inverse_5 (by decide) (fun h5 => ?_) (fun h5 => ?_)
    · skip
      exact absurd h5 (by omega)
    · skip
      refine st_aload_n dX6_inverse_8 rfl ?_
      refine st_iload_n dX6_inverse_9 rfl ?_
      refine st_callVi [vi y] [] dX6_inverse_10 vl_X6_115 rfl rfl rfl rfl (Nat.le_of_ble_eq_true rfl) (by decide) (c_isWithin hx.2.2.1.1 hx.2.2.1.2.1) (fun zb Mb qb => ?_)
      obtain ⟨qb, rfl⟩ := qb
      rcases qb with ⟨rfl, ab⟩ | ⟨rfl, ab⟩
      · skip
        refine st_if_ne 18 dX6_inverse_13 (by decide) (fun h13 => ?_) (fun h13 => ?_)
        · skip
          refine st_aload_n dX6_inverse_18 rfl ?_
          refine st_callVi [] [] dX6_inverse_19 vl_X6_135 rfl rfl rfl rfl (Nat.le_of_ble_eq_true rfl) (by decide) (c_wholeCorner hx) (fun z Mw qw => ?_)
          obtain ⟨rfl, hS, hG⟩ := qw
          have hx2 := xOk_S hx hS hG
          refine st_if_ne 28 dX6_inverse_22 (by decide) (fun h22 => ?_) (fun h22 => ?_)
          · skip
            refine st_aload_n dX6_inverse_28 rfl ?_
            refine st_getr (i' := 0) dX6_inverse_29 fl_X6_12 rfl rfl rfl (fun _ => by decide) ?_
            refine st_getr (i' := 0) dX6_inverse_32 fl_X6_76 rfl rfl rfl (fun _ => by decide) ?_
            refine st_get dX6_inverse_35 fl_X6_106 rfl rfl rfl ?_
            refine fAt_v (x' := (w : Int)) hx2.2.2.1.1 ?_
            refine st_istore_n (ls' := [some (vr 0 0), some (vi x), some (vi y), some (vi (w : Int)), none]) dX6_inverse_38 (by decide) rfl rfl ?_
            refine st_aload_n dX6_inverse_39 rfl ?_
            refine st_getr (i' := 0) dX6_inverse_40 fl_X6_33 rfl rfl rfl (fun _ => by decide) ?_
            refine st_aload_n dX6_inverse_43 rfl ?_
            refine st_getr (i' := 0) dX6_inverse_44 fl_X6_12 rfl rfl rfl (fun _ => by decide) ?_
            refine st_getr (i' := 0) dX6_inverse_47 fl_X6_76 rfl rfl rfl (fun _ => by decide) ?_
            refine st_aload_n dX6_inverse_50 rfl ?_
            refine st_getr (i' := 0) dX6_inverse_51 fl_X6_12 rfl rfl rfl (fun _ => by decide) ?_
            refine st_get dX6_inverse_54 fl_X6_72 rfl rfl rfl ?_
            refine fAt_v (x' := p) hx2.1 ?_
            refine st_iload_n dX6_inverse_57 rfl ?_
            refine st_callVv [vr 2 0, vi p, vi (w : Int)] [] dX6_inverse_58 vl_X6_182 rfl rfl rfl rfl (Nat.le_of_ble_eq_true rfl) (by decide) (c_fill hx2.2.2.2.choose_spec hx2.2.1 hx2.2.2.1 (Nat.le_refl w)) (fun M1 q1 => ?_)
            obtain ⟨f, C1, rfl, hg1, hC1⟩ := q1
            refine st_iconst dX6_inverse_61 (by decide) ?_
            refine st_istore (ls' := [some (vr 0 0), some (vi x), some (vi y), some (vi (w : Int)), some (vi 0)]) dX6_inverse_62 (by decide) rfl rfl ?_
            refine fAt_ls (ls' := [some (vr 0 0), some (vi ((x.toNat : Nat) : Int)), some (vi ((y.toNat : Nat) : Int)), some (vi (w : Int)), some (vi ((0 : Nat) : Int))]) (by rw [show ((x.toNat : Nat) : Int) = x by omega, show ((y.toNat : Nat) : Int) = y by omega]; rfl) ?_
            refine fAt_m (congrArg (wC (wG Mw p f)) (sC_0 C1 w (unt y.toNat)).symm) ?_
            refine fAt_q (fun r M' h => ?_) (inverse_l (x := x.toNat) (y := y.toNat) hx2 (by omega) (by omega) hg1 hC1 (by rw [eM_S hS]; exact h22) w 0 (by omega))
            obtain ⟨z, e, h1, h2, h3⟩ := h
            rw [eM_S hS] at h1
            exact ⟨z, e, Or.inr ⟨⟨aa, ab⟩, h1⟩, gS_t hS h2, h3⟩
          · skip
            refine st_bipush dX6_inverse_25 (by decide) ?_
            refine st_ireturn dX6_inverse_27 rfl ⟨_, rfl, ⟨Or.inr ⟨⟨aa, ab⟩, Or.inl ⟨h22, rfl⟩⟩, hS, hG⟩⟩
        · skip
          exact absurd h13 (by omega)
      · skip
        refine st_if_ne 18 dX6_inverse_13 (by decide) (fun h13 => ?_) (fun h13 => ?_)
        · skip
          exact absurd h13 (by omega)
        · skip
          refine st_iconst dX6_inverse_16 (by decide) ?_
          refine st_ireturn dX6_inverse_17 rfl ⟨_, rfl, ⟨Or.inl ⟨by omega, rfl⟩, gS_r _, hx.2.2.2⟩⟩
  · skip
    refine st_if_eq 16 dX6_inverse_5 (by decide) (fun h5 => ?_) (fun h5 => ?_)
    · skip
      refine st_iconst dX6_inverse_16 (by decide) ?_
      refine st_ireturn dX6_inverse_17 rfl ⟨_, rfl, ⟨Or.inl ⟨by omega, rfl⟩, gS_r _, hx.2.2.2⟩⟩
    · skip
      exact absurd h5 (by omega)
/-! a trial: the line with another number at a place -/
def tS (M M' : fM) : Prop := ∀ k a b, k ≠ 8 → k ≠ 10 → k ≠ 11 → k ≠ 12 → ¬ ((k = 2 ∨ k = 3 ∨ k = 4) ∧ a = 18) → M' k a b = M k a b
theorem tS_t {M N L : fM} (h1 : tS M N) (h2 : tS N L) : tS M L := fun k a b q1 q2 q3 q4 q5 => (h2 k a b q1 q2 q3 q4 q5).trans (h1 k a b q1 q2 q3 q4 q5)
theorem tS_g {M N : fM} (h : gS M N) : tS M N := fun k a b q1 q2 q3 q4 _ => h k a b q1 q2 q3 q4
def eV (M : fM) (w : Nat) (p : Int) (k : Nat) (v : Int) : Nat → Nat → Int := ent p w (M 2 0 1) (fun q => if q = k then v else M 3 0 q)
def cV (M : fM) (w : Nat) (p : Int) (k v : Nat) : Int := dt w (eV M w p k (v : Int)) % p
def trS (M N : fM) (w : Nat) (p : Int) (k : Nat) : Prop := tS M N ∧ gI N ∧ sOk N 18 w p ∧ N 2 18 1 = M 2 0 1 ∧ ∀ q, q < 2 * w - 1 → q ≠ k → N 3 18 q = M 3 0 q
theorem trS_0 {M : fM} {w : Nat} {p : Int} {k : Nat} (h : xOk M w p) : trS M (stk M 18 0) w p k := by
  obtain ⟨h1, h2, h3, h4, h5, h6⟩ := h.2.2.1
  refine ⟨fun k a b q1 q2 q3 q4 q5 => stk_off (by omega), ⟨h.2.2.2.choose, ?_⟩, ⟨?_, h2, ?_, fun q hq => ?_, fun q hq => ?_, ?_⟩, ?_, fun q hq _ => ?_⟩
  · obtain ⟨g1, g2, g3⟩ := h.2.2.2.choose_spec
    exact ⟨by rw [stk_off (by omega)]; exact g1, g2, fun a a1 a2 => by rw [stk_off (by omega)]; exact g3 a a1 a2⟩
  · unfold stk; rw [if_pos (by omega)]; exact h1
  · unfold stk; rw [if_pos (by omega)]; exact h3
  · unfold stk; rw [if_pos (by omega)]; exact h4 q hq
  · unfold stk; rw [if_pos (by omega)]; exact h5 q hq
  · unfold stk; rw [if_pos (by omega)]; exact h6
  · unfold stk; rw [if_pos (by omega)]
  · unfold stk; rw [if_pos (by omega)]
theorem trS_up {M N : fM} {w : Nat} {p : Int} {k : Nat} {v : Int} (h : trS M N w p k) (hv : 0 ≤ v ∧ v < p) : trS M (fup N 3 18 k v) w p k := by
  obtain ⟨h1, h2, ⟨s1, s2, s3, s4, s5, s6⟩, h4, h5⟩ := h
  refine ⟨fun k a b q1 q2 q3 q4 q5 => by rw [fup_ne (by omega)]; exact h1 k a b q1 q2 q3 q4 q5, ⟨h2.choose, ?_⟩, ⟨s1, s2, s3, fun q hq => ?_, s5, s6⟩, h4, fun q hq hne => ?_⟩
  · obtain ⟨g1, g2, g3⟩ := h2.choose_spec
    exact ⟨g1, g2, fun a a1 a2 => g3 a a1 a2⟩
  · by_cases e : q = k
    · rw [e, fup_eq]; exact hv
    · rw [fup_ne (by omega)]; exact s4 q hq
  · rw [fup_ne (by omega)]; exact h5 q hq hne
theorem trS_S {M N N' : fM} {w : Nat} {p : Int} {k : Nat} (h : trS M N w p k) (hs : gS N N') (hg : gI N') : trS M N' w p k := by
  obtain ⟨h1, h2, h3, h4, h5⟩ := h
  exact ⟨tS_t h1 (tS_g hs), hg, sOk_S hs h3, by rw [hs 2 18 1 (by decide) (by decide) (by decide) (by decide)]; exact h4, fun q hq hne => by rw [hs 3 18 q (by decide) (by decide) (by decide) (by decide)]; exact h5 q hq hne⟩
theorem trS_e {M N : fM} {w : Nat} {p : Int} {k : Nat} {v : Int} (h : trS M N w p k) : dt w (eM (fup N 3 18 k v) 18 w p) = dt w (eV M w p k v) := by
  refine dt_congr (fun i j hi hj => ?_)
  show ent p w (fup N 3 18 k v 2 18 1) (fup N 3 18 k v 3 18) i j = ent p w (M 2 0 1) (fun q => if q = k then v else M 3 0 q) i j
  rw [show fup N 3 18 k v 2 18 1 = M 2 0 1 from h.2.2.2.1]
  refine ent_congr (fun q hq => ?_) hi hj
  by_cases e : q = k
  · rw [e, fup_eq, if_pos rfl]
  · rw [fup_ne (by omega), if_neg e]; exact h.2.2.2.2 q hq e
theorem trS_p {M N : fM} {w : Nat} {p : Int} {k : Nat} (hx : xOk M w p) (h : trS M N w p k) : N 1 0 0 = p := (h.1 1 0 0 (by decide) (by decide) (by decide) (by decide) (by omega)).trans hx.1
/-! how many are 0, the first that is; the first that is not -/
def wkN (f : Nat → Int) : Nat → Int
  | 0 => 0
  | n + 1 => if f n = 0 then wkN f n + 1 else wkN f n
def wkF (f : Nat → Int) : Nat → Int
  | 0 => -4
  | n + 1 => if f n = 0 then (if wkN f n = 0 then (n : Int) else wkF f n) else wkF f n
theorem wkN_b (f : Nat → Int) : ∀ n : Nat, 0 ≤ wkN f n ∧ wkN f n ≤ (n : Int)
  | 0 => by unfold wkN; omega
  | n + 1 => by
    have := wkN_b f n
    unfold wkN
    split <;> omega
theorem wkF_b (f : Nat → Int) : ∀ n : Nat, -4 ≤ wkF f n ∧ wkF f n ≤ (n : Int)
  | 0 => by unfold wkF; omega
  | n + 1 => by
    have := wkF_b f n
    unfold wkF
    split
    · split <;> omega
    · omega
def fst (f : Nat → Int) (e : Int) : Nat → Int
  | 0 => -4
  | n + 1 => if fst f e n = -4 then (if f n = e then -4 else (n : Int)) else fst f e n
theorem fst_no {f : Nat → Int} {e : Int} : ∀ {n : Nat}, (∀ q, q < n → f q = e) → fst f e n = -4
  | 0, _ => rfl
  | n + 1, h => by
    unfold fst
    rw [if_pos (fst_no (fun q hq => h q (by omega))), if_pos (h n (by omega))]
theorem fst_at {f : Nat → Int} {e : Int} {v : Nat} (h0 : ∀ q, q < v → f q = e) (h : f v ≠ e) : ∀ {n : Nat}, v < n → fst f e n = (v : Int)
  | 0, hn => absurd hn (by omega)
  | n + 1, hn => by
    unfold fst
    by_cases q : v = n
    · subst q
      rw [if_pos (fst_no h0), if_neg h]
    · rw [fst_at h0 h (n := n) (by omega), if_neg (by omega)]
set_option maxHeartbeats 4000000 in
set_option maxRecDepth 100000 in
theorem leastMender_l {g : fG} {M : fM} {w : Nat} {p : Int} (hx : xOk M w p) {k : Nat} (hk : k < 2 * w - 1) :
    ∀ (n v : Nat) (Nn : fM), ((v + n : Nat) : Int) = p → (∀ q, q < v → cV M w p k q = 0) → trS M Nn w p k → fAt g Y_X6_leastMender 16 [some (vr 0 0), some (vi (k : Int)), some (vi (v : Int))] [] Nn (fI (fun z M' => z = fst (cV M w p k) 0 p.toNat ∧ tS M M' ∧ gI M')) := by
  have hw1 := hx.2.2.1.2.1
  have hp2 := hx.2.1.1
  intro n
  induction n with
  | zero =>
    intro v Nn hn h0 ht
    refine st_iload_n dX6_leastMender_16 rfl ?_
    refine st_aload_n dX6_leastMender_17 rfl ?_
    refine st_getr (i' := 0) dX6_leastMender_18 fl_X6_12 rfl rfl rfl (fun _ => by decide) ?_
    refine st_get dX6_leastMender_21 fl_X6_72 rfl rfl rfl ?_
    refine fAt_v (x' := p) (trS_p hx ht) ?_
    refine st_icmp_ge 63 dX6_leastMender_24 (by decide) (fun h24 => ?_) (fun h24 => ?_)
    · skip
      refine st_bipush dX6_leastMender_63 (by decide) ?_
      refine st_ireturn dX6_leastMender_65 rfl ⟨_, rfl, ⟨(fst_no (fun q hq => h0 q (by omega))).symm, ht.1, ht.2.1⟩⟩
    · skip
      exact absurd h24 (by omega)
  | succ n ih =>
    intro v Nn hn h0 ht
    refine st_iload_n dX6_leastMender_16 rfl ?_
    refine st_aload_n dX6_leastMender_17 rfl ?_
    refine st_getr (i' := 0) dX6_leastMender_18 fl_X6_12 rfl rfl rfl (fun _ => by decide) ?_
    refine st_get dX6_leastMender_21 fl_X6_72 rfl rfl rfl ?_
    refine fAt_v (x' := p) (trS_p hx ht) ?_
    refine st_icmp_ge 63 dX6_leastMender_24 (by decide) (fun h24 => ?_) (fun h24 => ?_)
    · skip
      exact absurd h24 (by omega)
    · skip
      refine st_aload_n dX6_leastMender_27 rfl ?_
      refine st_getr (i' := 18) dX6_leastMender_28 fl_X6_40 rfl rfl rfl (fun _ => by decide) ?_
      refine st_getr (i' := 18) dX6_leastMender_31 fl_X6_112 rfl rfl rfl (fun _ => by decide) ?_
      refine st_iload_n dX6_leastMender_34 rfl ?_
      refine st_iload_n dX6_leastMender_35 rfl ?_
      refine st_iast (j := k) dX6_leastMender_36 rfl rfl rfl rfl (by omega) ?_
      have ht1 := trS_up (v := (v : Int)) ht ⟨by omega, by omega⟩
      refine st_aload_n dX6_leastMender_37 rfl ?_
      refine st_aload_n dX6_leastMender_38 rfl ?_
      refine st_getr (i' := 18) dX6_leastMender_39 fl_X6_40 rfl rfl rfl (fun _ => by decide) ?_
      refine st_aload_n dX6_leastMender_42 rfl ?_
      refine st_getr (i' := 18) dX6_leastMender_43 fl_X6_40 rfl rfl rfl (fun _ => by decide) ?_
      refine st_get dX6_leastMender_46 fl_X6_106 rfl rfl rfl ?_
      refine fAt_v (x' := (w : Int)) ht1.2.2.1.1 ?_
      refine st_callVi [vr 2 18, vi (w : Int)] [] dX6_leastMender_49 vl_X6_167 rfl rfl rfl rfl (Nat.le_of_ble_eq_true rfl) (by decide) (c_cornerOf (trS_p hx ht1) hx.2.1 ht1.2.2.1 ht1.2.1 (Nat.le_refl w)) (fun z Mc qc => ?_)
      obtain ⟨rfl, hS2, hG2⟩ := qc
      rw [trS_e ht]
      have ht2 := trS_S ht1 hS2 hG2
      refine st_if_eq 57 dX6_leastMender_52 (by decide) (fun h52 => ?_) (fun h52 => ?_)
      · skip
        refine st_iinc (ls' := [some (vr 0 0), some (vi (k : Int)), some (vi ((v : Int) + 1))]) dX6_leastMender_57 rfl (by omega) (by decide) rfl rfl ?_
        refine st_goto 16 dX6_leastMender_60 (by decide) ?_
        exact ih (v + 1) Mc (by omega) (fun q hq => by
          by_cases e : q = v
          · rw [e]; exact h52
          · exact h0 q (by omega)) ht2
      · skip
        refine st_iload_n dX6_leastMender_55 rfl ?_
        refine st_ireturn dX6_leastMender_56 rfl ⟨_, rfl, ⟨(fst_at h0 h52 (by omega)).symm, ht2.1, ht2.2.1⟩⟩
set_option maxHeartbeats 4000000 in
set_option maxRecDepth 100000 in
theorem c_leastMender {g : fG} {M : fM} {w : Nat} {p : Int} (hx : xOk M w p) {k : Nat} (hk : k < 2 * w - 1) :
    fCi g Y_X6_leastMender [vr 0 0, vi (k : Int)] M (fun z M' => z = fst (cV M w p k) 0 p.toNat ∧ tS M M' ∧ gI M') := by
  have hw1 := hx.2.2.1.2.1
  have hp2 := hx.2.1.1
  refine fCi_of _ [some (vr 0 0), some (vi (k : Int)), none] (by decide) (Nat.le_of_ble_eq_true rfl) rfl (fun h => h) ?_
  refine st_aload_n dX6_leastMender_0 rfl ?_
  refine st_getr (i' := 18) dX6_leastMender_1 fl_X6_40 rfl rfl rfl (fun _ => by decide) ?_
  refine st_aload_n dX6_leastMender_4 rfl ?_
  refine st_getr (i' := 0) dX6_leastMender_5 fl_X6_12 rfl rfl rfl (fun _ => by decide) ?_
  refine st_getr (i' := 0) dX6_leastMender_8 fl_X6_76 rfl rfl rfl (fun _ => by decide) ?_
  refine st_callVv [vr 2 0] [] dX6_leastMender_11 vl_X6_102 rfl rfl rfl rfl (Nat.le_of_ble_eq_true rfl) (by decide) (c_takeFrom (by decide)) (fun Ma qa => ?_)
  subst qa
  refine st_iconst dX6_leastMender_14 (by decide) ?_
  refine st_istore_n (ls' := [some (vr 0 0), some (vi (k : Int)), some (vi 0)]) dX6_leastMender_15 (by decide) rfl rfl ?_
  exact leastMender_l hx hk p.toNat 0 _ (by omega) (fun q hq => absurd hq (by omega)) (trS_0 hx)
set_option maxHeartbeats 4000000 in
set_option maxRecDepth 100000 in
theorem weak_l {g : fG} {M : fM} {w : Nat} {p : Int} (hx : xOk M w p) {k : Nat} {y : Int} (hk : k < 2 * w - 1) :
    ∀ (n v : Nat) (Nn : fM), ((v + n : Nat) : Int) = p → trS M Nn w p k → fAt g Y_X6_weak 40 [some (vr 0 0), some (vi (k : Int)), some (vi y), some (vi (wkN (cV M w p k) v)), some (vi (wkF (cV M w p k) v)), some (vi (v : Int))] [] Nn (fI (fun z M' => z = (if y = 0 then wkN (cV M w p k) p.toNat else wkF (cV M w p k) p.toNat) ∧ tS M M' ∧ gI M')) := by
  have hw1 := hx.2.2.1.2.1
  have hp2 := hx.2.1.1
  intro n
  induction n with
  | zero =>
    intro v Nn hn ht
    refine st_iload dX6_weak_40 rfl ?_
    refine st_aload_n dX6_weak_42 rfl ?_
    refine st_getr (i' := 0) dX6_weak_43 fl_X6_12 rfl rfl rfl (fun _ => by decide) ?_
    refine st_get dX6_weak_46 fl_X6_72 rfl rfl rfl ?_
    refine fAt_v (x' := p) (trS_p hx ht) ?_
    refine st_icmp_ge 103 dX6_weak_49 (by decide) (fun h49 => ?_) (fun h49 => ?_)
    · skip
      refine st_iload_n dX6_weak_103 rfl ?_
      refine st_if_ne 111 dX6_weak_104 (by decide) (fun h104 => ?_) (fun h104 => ?_)
      · skip
        refine st_iload dX6_weak_111 rfl ?_
        refine st_ireturn dX6_weak_113 rfl ⟨_, rfl, ⟨?_, ht.1, ht.2.1⟩⟩
        have e : p.toNat = v := by omega
        rw [e]
        first | rw [if_pos h104] | rw [if_neg h104]
      · skip
        refine st_iload_n dX6_weak_107 rfl ?_
        refine st_goto 113 dX6_weak_108 (by decide) ?_
        refine st_ireturn dX6_weak_113 rfl ⟨_, rfl, ⟨?_, ht.1, ht.2.1⟩⟩
        have e : p.toNat = v := by omega
        rw [e]
        first | rw [if_pos h104] | rw [if_neg h104]
    · skip
      exact absurd h49 (by omega)
  | succ n ih =>
    intro v Nn hn ht
    refine st_iload dX6_weak_40 rfl ?_
    refine st_aload_n dX6_weak_42 rfl ?_
    refine st_getr (i' := 0) dX6_weak_43 fl_X6_12 rfl rfl rfl (fun _ => by decide) ?_
    refine st_get dX6_weak_46 fl_X6_72 rfl rfl rfl ?_
    refine fAt_v (x' := p) (trS_p hx ht) ?_
    refine st_icmp_ge 103 dX6_weak_49 (by decide) (fun h49 => ?_) (fun h49 => ?_)
    · skip
      exact absurd h49 (by omega)
    · skip
      refine st_aload_n dX6_weak_52 rfl ?_
      refine st_getr (i' := 18) dX6_weak_53 fl_X6_40 rfl rfl rfl (fun _ => by decide) ?_
      refine st_getr (i' := 18) dX6_weak_56 fl_X6_112 rfl rfl rfl (fun _ => by decide) ?_
      refine st_iload_n dX6_weak_59 rfl ?_
      refine st_iload dX6_weak_60 rfl ?_
      refine st_iast (j := k) dX6_weak_62 rfl rfl rfl rfl (by omega) ?_
      have ht1 := trS_up (v := (v : Int)) ht ⟨by omega, by omega⟩
      refine st_aload_n dX6_weak_63 rfl ?_
      refine st_aload_n dX6_weak_64 rfl ?_
      refine st_getr (i' := 18) dX6_weak_65 fl_X6_40 rfl rfl rfl (fun _ => by decide) ?_
      refine st_aload_n dX6_weak_68 rfl ?_
      refine st_getr (i' := 18) dX6_weak_69 fl_X6_40 rfl rfl rfl (fun _ => by decide) ?_
      refine st_get dX6_weak_72 fl_X6_106 rfl rfl rfl ?_
      refine fAt_v (x' := (w : Int)) ht1.2.2.1.1 ?_
      refine st_callVi [vr 2 18, vi (w : Int)] [] dX6_weak_75 vl_X6_167 rfl rfl rfl rfl (Nat.le_of_ble_eq_true rfl) (by decide) (c_cornerOf (trS_p hx ht1) hx.2.1 ht1.2.2.1 ht1.2.1 (Nat.le_refl w)) (fun z Mc qc => ?_)
      obtain ⟨rfl, hS2, hG2⟩ := qc
      rw [trS_e ht]
      have ht2 := trS_S ht1 hS2 hG2
      refine st_if_ne 97 dX6_weak_78 (by decide) (fun h78 => ?_) (fun h78 => ?_)
      · skip
        refine st_iinc (ls' := [some (vr 0 0), some (vi (k : Int)), some (vi y), some (vi (wkN (cV M w p k) v)), some (vi (wkF (cV M w p k) v)), some (vi ((v : Int) + 1))]) dX6_weak_97 rfl (by omega) (by decide) rfl rfl ?_
        refine st_goto 40 dX6_weak_100 (by decide) ?_
        have hc : cV M w p k v = dt w (eV M w p k (v : Int)) % p := rfl
        rw [← hc] at h78
        refine fAt_ls (ls' := [some (vr 0 0), some (vi (k : Int)), some (vi y), some (vi (wkN (cV M w p k) (v + 1))), some (vi (wkF (cV M w p k) (v + 1))), some (vi ((v + 1 : Nat) : Int))]) (by
          first
          | (rw [show wkN (cV M w p k) (v + 1) = wkN (cV M w p k) v + 1 by show (if cV M w p k v = 0 then _ else _) = _; rw [if_pos h78]]; rw [show wkF (cV M w p k) (v + 1) = (v : Int) by show (if cV M w p k v = 0 then (if wkN (cV M w p k) v = 0 then (v : Int) else _) else _) = _; rw [if_pos h78, if_pos h82]]; rfl)
          | (rw [show wkN (cV M w p k) (v + 1) = wkN (cV M w p k) v + 1 by show (if cV M w p k v = 0 then _ else _) = _; rw [if_pos h78]]; rw [show wkF (cV M w p k) (v + 1) = wkF (cV M w p k) v by show (if cV M w p k v = 0 then (if wkN (cV M w p k) v = 0 then (v : Int) else _) else _) = _; rw [if_pos h78, if_neg h82]]; rfl)
          | (rw [show wkN (cV M w p k) (v + 1) = wkN (cV M w p k) v by show (if cV M w p k v = 0 then _ else _) = _; rw [if_neg h78]]; rw [show wkF (cV M w p k) (v + 1) = wkF (cV M w p k) v by show (if cV M w p k v = 0 then _ else _) = _; rw [if_neg h78]]; rfl)) ?_
        exact ih (v + 1) Mc (by omega) ht2
      · skip
        refine st_iload_n dX6_weak_81 rfl ?_
        refine st_if_ne 90 dX6_weak_82 (by decide) (fun h82 => ?_) (fun h82 => ?_)
        · skip
          refine st_iload dX6_weak_90 rfl ?_
          refine st_istore (ls' := [some (vr 0 0), some (vi (k : Int)), some (vi y), some (vi (wkN (cV M w p k) v)), some (vi (wkF (cV M w p k) v)), some (vi (v : Int))]) dX6_weak_92 (by decide) rfl rfl ?_
          refine st_iinc (ls' := [some (vr 0 0), some (vi (k : Int)), some (vi y), some (vi ((wkN (cV M w p k) v) + 1)), some (vi (wkF (cV M w p k) v)), some (vi (v : Int))]) dX6_weak_94 rfl (by have := wkN_b (cV M w p k) v; omega) (by decide) rfl rfl ?_
          refine st_iinc (ls' := [some (vr 0 0), some (vi (k : Int)), some (vi y), some (vi ((wkN (cV M w p k) v) + 1)), some (vi (wkF (cV M w p k) v)), some (vi ((v : Int) + 1))]) dX6_weak_97 rfl (by omega) (by decide) rfl rfl ?_
          refine st_goto 40 dX6_weak_100 (by decide) ?_
          have hc : cV M w p k v = dt w (eV M w p k (v : Int)) % p := rfl
          rw [← hc] at h78
          refine fAt_ls (ls' := [some (vr 0 0), some (vi (k : Int)), some (vi y), some (vi (wkN (cV M w p k) (v + 1))), some (vi (wkF (cV M w p k) (v + 1))), some (vi ((v + 1 : Nat) : Int))]) (by
            first
            | (rw [show wkN (cV M w p k) (v + 1) = wkN (cV M w p k) v + 1 by show (if cV M w p k v = 0 then _ else _) = _; rw [if_pos h78]]; rw [show wkF (cV M w p k) (v + 1) = (v : Int) by show (if cV M w p k v = 0 then (if wkN (cV M w p k) v = 0 then (v : Int) else _) else _) = _; rw [if_pos h78, if_pos h82]]; rfl)
            | (rw [show wkN (cV M w p k) (v + 1) = wkN (cV M w p k) v + 1 by show (if cV M w p k v = 0 then _ else _) = _; rw [if_pos h78]]; rw [show wkF (cV M w p k) (v + 1) = wkF (cV M w p k) v by show (if cV M w p k v = 0 then (if wkN (cV M w p k) v = 0 then (v : Int) else _) else _) = _; rw [if_pos h78, if_neg h82]]; rfl)
            | (rw [show wkN (cV M w p k) (v + 1) = wkN (cV M w p k) v by show (if cV M w p k v = 0 then _ else _) = _; rw [if_neg h78]]; rw [show wkF (cV M w p k) (v + 1) = wkF (cV M w p k) v by show (if cV M w p k v = 0 then _ else _) = _; rw [if_neg h78]]; rfl)) ?_
          exact ih (v + 1) Mc (by omega) ht2
        · skip
          refine st_iload dX6_weak_85 rfl ?_
          refine st_goto 92 dX6_weak_87 (by decide) ?_
          refine st_istore (ls' := [some (vr 0 0), some (vi (k : Int)), some (vi y), some (vi (wkN (cV M w p k) v)), some (vi (v : Int)), some (vi (v : Int))]) dX6_weak_92 (by decide) rfl rfl ?_
          refine st_iinc (ls' := [some (vr 0 0), some (vi (k : Int)), some (vi y), some (vi ((wkN (cV M w p k) v) + 1)), some (vi (v : Int)), some (vi (v : Int))]) dX6_weak_94 rfl (by have := wkN_b (cV M w p k) v; omega) (by decide) rfl rfl ?_
          refine st_iinc (ls' := [some (vr 0 0), some (vi (k : Int)), some (vi y), some (vi ((wkN (cV M w p k) v) + 1)), some (vi (v : Int)), some (vi ((v : Int) + 1))]) dX6_weak_97 rfl (by omega) (by decide) rfl rfl ?_
          refine st_goto 40 dX6_weak_100 (by decide) ?_
          have hc : cV M w p k v = dt w (eV M w p k (v : Int)) % p := rfl
          rw [← hc] at h78
          refine fAt_ls (ls' := [some (vr 0 0), some (vi (k : Int)), some (vi y), some (vi (wkN (cV M w p k) (v + 1))), some (vi (wkF (cV M w p k) (v + 1))), some (vi ((v + 1 : Nat) : Int))]) (by
            first
            | (rw [show wkN (cV M w p k) (v + 1) = wkN (cV M w p k) v + 1 by show (if cV M w p k v = 0 then _ else _) = _; rw [if_pos h78]]; rw [show wkF (cV M w p k) (v + 1) = (v : Int) by show (if cV M w p k v = 0 then (if wkN (cV M w p k) v = 0 then (v : Int) else _) else _) = _; rw [if_pos h78, if_pos h82]]; rfl)
            | (rw [show wkN (cV M w p k) (v + 1) = wkN (cV M w p k) v + 1 by show (if cV M w p k v = 0 then _ else _) = _; rw [if_pos h78]]; rw [show wkF (cV M w p k) (v + 1) = wkF (cV M w p k) v by show (if cV M w p k v = 0 then (if wkN (cV M w p k) v = 0 then (v : Int) else _) else _) = _; rw [if_pos h78, if_neg h82]]; rfl)
            | (rw [show wkN (cV M w p k) (v + 1) = wkN (cV M w p k) v by show (if cV M w p k v = 0 then _ else _) = _; rw [if_neg h78]]; rw [show wkF (cV M w p k) (v + 1) = wkF (cV M w p k) v by show (if cV M w p k v = 0 then _ else _) = _; rw [if_neg h78]]; rfl)) ?_
          exact ih (v + 1) Mc (by omega) ht2
set_option maxHeartbeats 4000000 in
set_option maxRecDepth 100000 in
theorem c_weak {g : fG} {M : fM} {w : Nat} {p : Int} (hx : xOk M w p) {x y : Int} :
    fCi g Y_X6_weak [vr 0 0, vi x, vi y] M (fun z M' => ((¬ ((0 ≤ x ∧ x < ((2 * w - 1 : Nat) : Int)) ∧ (y = 0 ∨ y = 1)) ∧ z = -1) ∨ (((0 ≤ x ∧ x < ((2 * w - 1 : Nat) : Int)) ∧ (y = 0 ∨ y = 1)) ∧ z = (if y = 0 then wkN (cV M w p x.toNat) p.toNat else wkF (cV M w p x.toNat) p.toNat))) ∧ tS M M' ∧ gI M') := by
  have hw1 := hx.2.2.1.2.1
  have hp2 := hx.2.1.1
  refine fCi_of _ [some (vr 0 0), some (vi x), some (vi y), none, none, none] (by decide) (Nat.le_of_ble_eq_true rfl) rfl (fun h => h) ?_
  refine st_aload_n dX6_weak_0 rfl ?_
  refine st_iload_n dX6_weak_1 rfl ?_
  refine st_callVi [vi x] [] dX6_weak_2 vl_X6_109 rfl rfl rfl rfl (Nat.le_of_ble_eq_true rfl) (by decide) (c_isPlace hx.2.2.1.1 hx.2.2.1.2.1) (fun za Ma qa => ?_)
  obtain ⟨qa, rfl⟩ := qa
  rcases qa with ⟨rfl, aa⟩ | ⟨rfl, aa⟩
  · skip
    refine st_if_eq 15 dX6_weak_5 (by decide) (fun h5 => ?_) (fun h5 => ?_)
    · skip
      exact absurd h5 (by omega)
    · skip
      refine st_iload_n dX6_weak_8 rfl ?_
      refine st_callSi [vi y] [] dX6_weak_9 sl_X6_194 rfl rfl (Nat.le_of_ble_eq_true rfl) (by decide) (c_isHalf) (fun zb Mb qb => ?_)
      obtain ⟨qb, rfl⟩ := qb
      rcases qb with ⟨rfl, ab⟩ | ⟨rfl, ab⟩
      · skip
        refine st_if_ne 17 dX6_weak_12 (by decide) (fun h12 => ?_) (fun h12 => ?_)
        · skip
          refine st_aload_n dX6_weak_17 rfl ?_
          refine st_getr (i' := 18) dX6_weak_18 fl_X6_40 rfl rfl rfl (fun _ => by decide) ?_
          refine st_aload_n dX6_weak_21 rfl ?_
          refine st_getr (i' := 0) dX6_weak_22 fl_X6_12 rfl rfl rfl (fun _ => by decide) ?_
          refine st_getr (i' := 0) dX6_weak_25 fl_X6_76 rfl rfl rfl (fun _ => by decide) ?_
          refine st_callVv [vr 2 0] [] dX6_weak_28 vl_X6_102 rfl rfl rfl rfl (Nat.le_of_ble_eq_true rfl) (by decide) (c_takeFrom (by decide)) (fun Mc qc => ?_)
          subst qc
          refine st_iconst dX6_weak_31 (by decide) ?_
          refine st_istore_n (ls' := [some (vr 0 0), some (vi x), some (vi y), some (vi 0), none, none]) dX6_weak_32 (by decide) rfl rfl ?_
          refine st_bipush dX6_weak_33 (by decide) ?_
          refine st_istore (ls' := [some (vr 0 0), some (vi x), some (vi y), some (vi 0), some (vi (-4)), none]) dX6_weak_35 (by decide) rfl rfl ?_
          refine st_iconst dX6_weak_37 (by decide) ?_
          refine st_istore (ls' := [some (vr 0 0), some (vi x), some (vi y), some (vi 0), some (vi (-4)), some (vi 0)]) dX6_weak_38 (by decide) rfl rfl ?_
          refine fAt_ls (ls' := [some (vr 0 0), some (vi ((x.toNat : Nat) : Int)), some (vi y), some (vi (wkN (cV Mb w p x.toNat) 0)), some (vi (wkF (cV Mb w p x.toNat) 0)), some (vi ((0 : Nat) : Int))]) (by rw [show ((x.toNat : Nat) : Int) = x by omega]; rfl) ?_
          refine fAt_q (fun r M' h => ?_) (weak_l (k := x.toNat) hx (by omega) p.toNat 0 _ (by omega) (trS_0 hx))
          obtain ⟨z, e, h1, h2⟩ := h
          exact ⟨z, e, Or.inr ⟨⟨aa, ab⟩, h1⟩, h2⟩
        · skip
          exact absurd h12 (by omega)
      · skip
        refine st_if_ne 17 dX6_weak_12 (by decide) (fun h12 => ?_) (fun h12 => ?_)
        · skip
          exact absurd h12 (by omega)
        · skip
          refine st_iconst dX6_weak_15 (by decide) ?_
          refine st_ireturn dX6_weak_16 rfl ⟨_, rfl, ⟨Or.inl ⟨by omega, rfl⟩, tS_g (gS_r _), hx.2.2.2⟩⟩
  · skip
    refine st_if_eq 15 dX6_weak_5 (by decide) (fun h5 => ?_) (fun h5 => ?_)
    · skip
      refine st_iconst dX6_weak_15 (by decide) ?_
      refine st_ireturn dX6_weak_16 rfl ⟨_, rfl, ⟨Or.inl ⟨by omega, rfl⟩, tS_g (gS_r _), hx.2.2.2⟩⟩
    · skip
      exact absurd h5 (by omega)
theorem eV_t {M N : fM} {w : Nat} {p : Int} (h : tS M N) : cV N w p = cV M w p := by
  funext k v
  unfold cV eV
  rw [h 2 0 1 (by decide) (by decide) (by decide) (by decide) (by omega), show N 3 0 = M 3 0 from funext fun q => h 3 0 q (by decide) (by decide) (by decide) (by decide) (by omega)]
theorem xOk_t {M N : fM} {w : Nat} {p : Int} (hx : xOk M w p) (h : tS M N) (hg : gI N) : xOk N w p := by
  obtain ⟨h1, h2, ⟨s1, s2, s3, s4, s5, s6⟩, h4⟩ := hx
  refine ⟨?_, h2, ⟨?_, s2, ?_, fun q hq => ?_, fun q hq => ?_, ?_⟩, hg⟩
  · rw [h 1 0 0 (by decide) (by decide) (by decide) (by decide) (by omega)]; exact h1
  · rw [h 2 0 0 (by decide) (by decide) (by decide) (by decide) (by omega)]; exact s1
  · rw [h 2 0 1 (by decide) (by decide) (by decide) (by decide) (by omega)]; exact s3
  · rw [h 3 0 q (by decide) (by decide) (by decide) (by decide) (by omega)]; exact s4 q hq
  · rw [h 4 0 q (by decide) (by decide) (by decide) (by decide) (by omega)]; exact s5 q hq
  · rw [h 2 0 2 (by decide) (by decide) (by decide) (by decide) (by omega)]; exact s6
/-- the first place that can be mended, or the number there -/
def mdS (h : Nat → Int) (n : Nat) (y : Int) : Int := if fst h (-4) n = -4 then -4 else if y = 0 then fst h (-4) n else h (fst h (-4) n).toNat
theorem fst_cases (f : Nat → Int) : ∀ n : Nat, fst f 0 n = -4 ∨ 0 ≤ fst f 0 n
  | 0 => Or.inl rfl
  | n + 1 => by
    unfold fst
    split
    · split
      · exact Or.inl rfl
      · right; omega
    · exact fst_cases f n
set_option maxHeartbeats 4000000 in
set_option maxRecDepth 100000 in
theorem mend_l {g : fG} {M : fM} {w : Nat} {p : Int} (hx : xOk M w p) {y : Int} :
    ∀ (n k : Nat) (Nn : fM), k + n = 2 * w - 1 → (∀ q, q < k → fst (cV M w p q) 0 p.toNat = -4) → tS M Nn → gI Nn → fAt g Y_X6_mend 21 [some (vr 0 0), some (vi y), some (vi (k : Int)), none] [] Nn (fI (fun z M' => z = mdS (fun k => fst (cV M w p k) 0 p.toNat) (2 * w - 1) y ∧ tS M M' ∧ gI M')) := by
  have hw1 := hx.2.2.1.2.1
  have hp2 := hx.2.1.1
  intro n
  induction n with
  | zero =>
    intro k Nn hn h0 hS hG
    refine st_iload_n dX6_mend_21 rfl ?_
    refine st_aload_n dX6_mend_22 rfl ?_
    refine st_getr (i' := 0) dX6_mend_23 fl_X6_12 rfl rfl rfl (fun _ => by decide) ?_
    refine st_getr (i' := 0) dX6_mend_26 fl_X6_76 rfl rfl rfl (fun _ => by decide) ?_
    refine st_callVi [] [vi (k : Int)] dX6_mend_29 vl_X6_197 rfl rfl rfl rfl (Nat.le_of_ble_eq_true rfl) (by decide) (c_rowLength (w := w) (xOk_t hx hS hG).2.2.1.1 hx.2.2.1.2.1) (fun z Ml ql => ?_)
    obtain ⟨rfl, rfl⟩ := ql
    refine st_icmp_ge 63 dX6_mend_32 (by decide) (fun h32 => ?_) (fun h32 => ?_)
    · skip
      refine st_bipush dX6_mend_63 (by decide) ?_
      refine st_ireturn dX6_mend_65 rfl ⟨_, rfl, ⟨?_, hS, hG⟩⟩
      unfold mdS
      rw [if_pos (fst_no (fun q hq => h0 q (by omega)))]
    · skip
      exact absurd h32 (by omega)
  | succ n ih =>
    intro k Nn hn h0 hS hG
    refine st_iload_n dX6_mend_21 rfl ?_
    refine st_aload_n dX6_mend_22 rfl ?_
    refine st_getr (i' := 0) dX6_mend_23 fl_X6_12 rfl rfl rfl (fun _ => by decide) ?_
    refine st_getr (i' := 0) dX6_mend_26 fl_X6_76 rfl rfl rfl (fun _ => by decide) ?_
    refine st_callVi [] [vi (k : Int)] dX6_mend_29 vl_X6_197 rfl rfl rfl rfl (Nat.le_of_ble_eq_true rfl) (by decide) (c_rowLength (w := w) (xOk_t hx hS hG).2.2.1.1 hx.2.2.1.2.1) (fun z Ml ql => ?_)
    obtain ⟨rfl, rfl⟩ := ql
    refine st_icmp_ge 63 dX6_mend_32 (by decide) (fun h32 => ?_) (fun h32 => ?_)
    · skip
      exact absurd h32 (by omega)
    · skip
      refine st_aload_n dX6_mend_35 rfl ?_
      refine st_iload_n dX6_mend_36 rfl ?_
      refine st_callVi [vi (k : Int)] [] dX6_mend_37 vl_X6_200 rfl rfl rfl rfl (Nat.le_of_ble_eq_true rfl) (by decide) (c_leastMender (k := k) (xOk_t hx hS hG) (by omega)) (fun z Mm qm => ?_)
      obtain ⟨rfl, hS2, hG2⟩ := qm
      rw [eV_t hS]
      refine st_istore_n (ls' := [some (vr 0 0), some (vi y), some (vi (k : Int)), some (vi (fst (cV M w p k) 0 p.toNat))]) dX6_mend_40 (by decide) rfl rfl ?_
      refine st_iload_n dX6_mend_41 rfl ?_
      refine st_bipush dX6_mend_42 (by decide) ?_
      refine st_icmp_eq 57 dX6_mend_44 (by decide) (fun h44 => ?_) (fun h44 => ?_)
      · skip
        refine st_iinc (ls' := [some (vr 0 0), some (vi y), some (vi ((k : Int) + 1)), some (vi (fst (cV M w p k) 0 p.toNat))]) dX6_mend_57 rfl (by omega) (by decide) rfl rfl ?_
        refine st_goto 21 dX6_mend_60 (by decide) ?_
        refine fAt_del 3 rfl ?_
        exact ih (k + 1) Mm (by omega) (fun q hq => by
          by_cases e : q = k
          · rw [e]; exact h44
          · exact h0 q (by omega)) (tS_t hS hS2) hG2
      · skip
        refine st_iload_n dX6_mend_47 rfl ?_
        refine st_if_ne 55 dX6_mend_48 (by decide) (fun h48 => ?_) (fun h48 => ?_)
        · skip
          refine st_iload_n dX6_mend_55 rfl ?_
          refine st_ireturn dX6_mend_56 rfl ⟨_, rfl, ⟨?_, tS_t hS hS2, hG2⟩⟩
          unfold mdS
          rw [fst_at (v := k) h0 h44 (by omega), if_neg (by omega)]
          first | rw [if_pos h48] | (rw [if_neg h48]; rfl)
        · skip
          refine st_iload_n dX6_mend_51 rfl ?_
          refine st_goto 56 dX6_mend_52 (by decide) ?_
          refine st_ireturn dX6_mend_56 rfl ⟨_, rfl, ⟨?_, tS_t hS hS2, hG2⟩⟩
          unfold mdS
          rw [fst_at (v := k) h0 h44 (by omega), if_neg (by omega)]
          first | rw [if_pos h48] | (rw [if_neg h48]; rfl)
set_option maxHeartbeats 4000000 in
set_option maxRecDepth 100000 in
theorem c_mend {g : fG} {M : fM} {w : Nat} {p : Int} (hx : xOk M w p) {y : Int} :
    fCi g Y_X6_mend [vr 0 0, vi y] M (fun z M' => ((¬ (y = 0 ∨ y = 1) ∧ z = -1) ∨ ((y = 0 ∨ y = 1) ∧ ((dt w (eM M 0 w p) % p ≠ 0 ∧ z = -2) ∨ (dt w (eM M 0 w p) % p = 0 ∧ z = mdS (fun k => fst (cV M w p k) 0 p.toNat) (2 * w - 1) y)))) ∧ tS M M' ∧ gI M') := by
  have hw1 := hx.2.2.1.2.1
  have hp2 := hx.2.1.1
  refine fCi_of _ [some (vr 0 0), some (vi y), none, none] (by decide) (Nat.le_of_ble_eq_true rfl) rfl (fun h => h) ?_
  refine st_iload_n dX6_mend_0 rfl ?_
  refine st_callSi [vi y] [] dX6_mend_1 sl_X6_194 rfl rfl (Nat.le_of_ble_eq_true rfl) (by decide) (c_isHalf) (fun za Ma qa => ?_)
  obtain ⟨qa, rfl⟩ := qa
  rcases qa with ⟨rfl, aa⟩ | ⟨rfl, aa⟩
  · skip
    refine st_if_ne 9 dX6_mend_4 (by decide) (fun h4 => ?_) (fun h4 => ?_)
    · skip
      refine st_aload_n dX6_mend_9 rfl ?_
      refine st_callVi [] [] dX6_mend_10 vl_X6_135 rfl rfl rfl rfl (Nat.le_of_ble_eq_true rfl) (by decide) (c_wholeCorner hx) (fun z Mw qw => ?_)
      obtain ⟨rfl, hS, hG⟩ := qw
      refine st_if_eq 19 dX6_mend_13 (by decide) (fun h13 => ?_) (fun h13 => ?_)
      · skip
        refine st_iconst dX6_mend_19 (by decide) ?_
        refine st_istore_n (ls' := [some (vr 0 0), some (vi y), some (vi 0), none]) dX6_mend_20 (by decide) rfl rfl ?_
        refine fAt_q (fun r M' h => ?_) (mend_l hx (2 * w - 1) 0 Mw (by omega) (fun q hq => absurd hq (by omega)) (tS_g hS) hG)
        obtain ⟨z, e, h1, h2⟩ := h
        exact ⟨z, e, Or.inr ⟨aa, Or.inr ⟨h13, h1⟩⟩, h2⟩
      · skip
        refine st_bipush dX6_mend_16 (by decide) ?_
        refine st_ireturn dX6_mend_18 rfl ⟨_, rfl, ⟨Or.inr ⟨aa, Or.inl ⟨h13, rfl⟩⟩, tS_g hS, hG⟩⟩
    · skip
      exact absurd h4 (by omega)
  · skip
    refine st_if_ne 9 dX6_mend_4 (by decide) (fun h4 => ?_) (fun h4 => ?_)
    · skip
      exact absurd h4 (by omega)
    · skip
      refine st_iconst dX6_mend_7 (by decide) ?_
      refine st_ireturn dX6_mend_8 rfl ⟨_, rfl, ⟨Or.inl ⟨aa, rfl⟩, tS_g (gS_r _), hx.2.2.2⟩⟩
