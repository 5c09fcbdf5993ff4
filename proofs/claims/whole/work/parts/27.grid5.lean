/-! ===== the grid's prime; the grid filled ===== -/
def pOk (p : Int) : Prop := (2 ≤ p ∧ p ≤ 97) ∧ ∀ a : Nat, 2 ≤ a → (a : Int) < p → p % (a : Int) ≠ 0
def wG (M : fM) (p : Int) (f : Nat → Int) : fM := fun k a b => if k = 8 ∧ a = 0 ∧ b = 3 then p else if k = 12 ∧ a = 0 then f b else M k a b
theorem wG_off {M : fM} {p : Int} {f : Nat → Int} {k a b : Nat} (h1 : k ≠ 8) (h2 : k ≠ 12) : wG M p f k a b = M k a b := by
  unfold wG
  rw [if_neg (by omega), if_neg (by omega)]
theorem wG_up (M : fM) (p : Int) (f : Nat → Int) (j : Nat) (v : Int) : fup (wG M p f) 12 0 j v = wG M p (fun b => if b = j then v else f b) := by
  funext k a b
  simp only [fup, wG]
  grind (splits := 30)
theorem wG_0 (M : fM) (p : Int) : fup M 8 0 3 p = wG M p (M 12 0) := by
  funext k a b
  simp only [fup, wG]
  grind (splits := 30)
theorem wG_same {M : fM} {p : Int} (h : M 8 0 3 = p) : M = wG M p (M 12 0) := by
  funext k a b
  simp only [wG]
  grind (splits := 30)
theorem inv_s {p a r x : Int} (hr : p % a = r) (hx : (r * x) % p = 1) : (a * (((p - p / a) * x) % p)) % p = 1 := by
  rw [mem']
  have e1 : a * (p / a) = p - r := by have := Int.mul_ediv_add_emod p a; omega
  have e2 : a * ((p - p / a) * x) = p * (a * x - x) + r * x := by
    rw [← Int.mul_assoc, Int.mul_sub, e1, Int.mul_sub, Int.sub_mul, Int.sub_mul, ← Int.mul_assoc, Int.mul_comm p a]
    omega
  rw [e2, Int.add_comm, Int.add_mul_emod_self_left]
  exact hx
def invT (p : Int) (f : Nat → Int) (n : Nat) : Prop := ∀ b : Nat, 1 ≤ b → b < n → 0 ≤ f b ∧ f b < p ∧ ((b : Int) * f b) % p = 1
set_option maxHeartbeats 4000000 in
set_option maxRecDepth 100000 in
theorem usePrime_l {g : fG} {M : fM} {p : Int} (hp : pOk p) :
    ∀ (n a : Nat) (f : Nat → Int), ((a + n : Nat) : Int) = p → 2 ≤ a → invT p f a → fAt g Y_X1_usePrime 16 [some (vr 8 0), some (vi p), some (vi (a : Int))] [] (wG M p f) (fN (fun M' => ∃ f, M' = wG M p f ∧ gOk p (wG M p f))) := by
  have hp2 := hp.1
  intro n
  induction n with
  | zero =>
    intro a f hn ha hf
    refine st_iload_n dX1_usePrime_16 rfl ?_
    refine st_iload_n dX1_usePrime_17 rfl ?_
    refine st_icmp_ge 49 dX1_usePrime_18 (by decide) (fun h18 => ?_) (fun h18 => ?_)
    · skip
      refine st_return dX1_usePrime_49 rfl ⟨rfl, ⟨f, rfl, rfl, hp.1, fun b h1 h2 => hf b h1 (by omega)⟩⟩
    · skip
      exact absurd h18 (by omega)
  | succ n ih =>
    intro a f hn ha hf
    refine st_iload_n dX1_usePrime_16 rfl ?_
    refine st_iload_n dX1_usePrime_17 rfl ?_
    refine st_icmp_ge 49 dX1_usePrime_18 (by decide) (fun h18 => ?_) (fun h18 => ?_)
    · skip
      exact absurd h18 (by omega)
    · skip
      have hm := modb (x := p) (p := (a : Int)) (by omega)
      have hne := hp.2 a (by omega) (by omega)
      have hnat : (((p % (a : Int)).toNat : Nat) : Int) = p % (a : Int) := Int.toNat_of_nonneg hm.1
      obtain ⟨hr1, hr2, hr3⟩ := hf (p % (a : Int)).toNat (by omega) (by omega)
      have hdv : 0 ≤ p / (a : Int) ∧ p / (a : Int) ≤ p := ⟨Int.ediv_nonneg (by omega) (by omega), Int.ediv_le_self _ (by omega)⟩
      have hmm := mulb (x := p - p / (a : Int)) (y := f (p % (a : Int)).toNat) (a := 97) (b := 97) (by omega) hr1 (by omega) (by omega)
      refine st_aload_n dX1_usePrime_21 rfl ?_
      refine st_getr (i' := 0) dX1_usePrime_22 fl_X1_20 rfl rfl rfl (fun _ => by decide) ?_
      refine st_iload_n dX1_usePrime_25 rfl ?_
      refine st_iload_n dX1_usePrime_26 rfl ?_
      refine st_iload_n dX1_usePrime_27 rfl ?_
      refine st_iload_n dX1_usePrime_28 rfl ?_
      refine st_idiv dX1_usePrime_29 (by omega) (by omega) ?_
      refine st_isub dX1_usePrime_30 (by omega) ?_
      refine st_aload_n dX1_usePrime_31 rfl ?_
      refine st_getr (i' := 0) dX1_usePrime_32 fl_X1_20 rfl rfl rfl (fun _ => by decide) ?_
      refine st_iload_n dX1_usePrime_35 rfl ?_
      refine st_iload_n dX1_usePrime_36 rfl ?_
      refine st_irem dX1_usePrime_37 (by omega) (by omega) ?_
      refine st_iald (j := (p % (a : Int)).toNat) dX1_usePrime_38 rfl rfl rfl hnat.symm (by omega) ?_
      refine fAt_v (x' := f (p % (a : Int)).toNat) rfl ?_
      refine st_imul dX1_usePrime_39 (by omega) ?_
      refine st_iload_n dX1_usePrime_40 rfl ?_
      refine st_irem dX1_usePrime_41 (by omega) (by omega) ?_
      refine st_iast (j := a) dX1_usePrime_42 rfl rfl rfl rfl (by omega) ?_
      refine fAt_m (wG_up _ _ _ _ _) ?_
      refine st_iinc (ls' := [some (vr 8 0), some (vi p), some (vi ((a : Int) + 1))]) dX1_usePrime_43 rfl (by omega) (by decide) rfl rfl ?_
      refine st_goto 16 dX1_usePrime_46 (by decide) ?_
      refine ih (a + 1) _ (by omega) (by omega) ?_
      intro b h1 h2
      by_cases e : b = a
      · subst e
        show 0 ≤ (if b = b then _ else f b) ∧ (if b = b then _ else f b) < p ∧ ((b : Int) * (if b = b then _ else f b)) % p = 1
        rw [if_pos rfl]
        exact ⟨(modb (by omega)).1, (modb (by omega)).2, inv_s hnat.symm hr3⟩
      · show 0 ≤ (if b = a then _ else f b) ∧ (if b = a then _ else f b) < p ∧ ((b : Int) * (if b = a then _ else f b)) % p = 1
        rw [if_neg e]
        exact hf b h1 (by omega)
set_option maxHeartbeats 4000000 in
set_option maxRecDepth 100000 in
theorem c_usePrime {g : fG} {M : fM} {p q : Int} (hg : gOk q M) (hp : pOk p) :
    fCv g Y_X1_usePrime [vr 8 0, vi p] M (fun M' => ∃ f, M' = wG M p f ∧ gOk p (wG M p f)) := by
  have hp2 := hp.1
  refine fCv_of _ [some (vr 8 0), some (vi p), none] (by decide) (Nat.le_of_ble_eq_true rfl) rfl (fun h => h) ?_
  refine st_iload_n dX1_usePrime_0 rfl ?_
  refine st_aload_n dX1_usePrime_1 rfl ?_
  refine st_get dX1_usePrime_2 fl_X1_23 rfl rfl rfl ?_
  refine fAt_v (x' := q) hg.1 ?_
  refine st_icmp_ne 9 dX1_usePrime_5 (by decide) (fun h5 => ?_) (fun h5 => ?_)
  · skip
    refine st_aload_n dX1_usePrime_9 rfl ?_
    refine st_iload_n dX1_usePrime_10 rfl ?_
    refine st_put dX1_usePrime_11 fl_X1_23 fp_X1_3.1 (Or.inl fp_X1_3.2) rfl rfl rfl ?_
    refine fAt_m (wG_0 M p) ?_
    refine st_iconst dX1_usePrime_14 (by decide) ?_
    refine st_istore_n (ls' := [some (vr 8 0), some (vi p), some (vi 2)]) dX1_usePrime_15 (by decide) rfl rfl ?_
    refine usePrime_l hp (p.toNat - 2) 2 (M 12 0) (by omega) (Nat.le_refl 2) ?_
    intro b h1 h2
    have e : b = 1 := by omega
    subst e
    have h1 := hg.2.2 1 (Nat.le_refl 1) (by have := hg.2.1; omega)
    have e2 : M 12 0 1 = 1 := by
      have h3 := h1.2.2
      rw [Int.natCast_one, Int.one_mul, Int.emod_eq_of_lt h1.1 h1.2.1] at h3
      exact h3
    rw [e2]
    exact ⟨by omega, by omega, by rw [Int.natCast_one, Int.one_mul, Int.emod_eq_of_lt (by omega) (by omega)]⟩
  · skip
    refine st_return dX1_usePrime_8 rfl ⟨rfl, ⟨M 12 0, wG_same (by rw [h5]; exact hg.1), rfl, hp.1, fun a h1 h2 => by rw [h5]; exact hg.2.2 a h1 (by rw [h5] at h2; exact h2)⟩⟩
def fC (C E : Nat → Nat → Int) (n a b : Nat) : Nat → Nat → Int := fun r c => if (r < a ∧ c < n) ∨ (r = a ∧ c < b) then E r c else C r c
theorem fC_s (C E : Nat → Nat → Int) (n a b : Nat) : (fun r c => if r = a ∧ c = b then E a b else fC C E n a b r c) = fC C E n a (b + 1) := by
  funext r c
  simp only [fC]
  grind (splits := 30)
theorem fC_r (C E : Nat → Nat → Int) (n a : Nat) : fC C E n a n = fC C E n (a + 1) 0 := by
  funext r c
  simp only [fC]
  grind (splits := 30)
theorem fC_0 (C E : Nat → Nat → Int) (n : Nat) : fC C E n 0 0 = C := by
  funext r c
  unfold fC
  rw [if_neg (by omega)]
def sOk (M : fM) (i w : Nat) (p : Int) : Prop := M 2 i 0 = (w : Int) ∧ (1 ≤ w ∧ w ≤ 6) ∧ (0 ≤ M 2 i 1 ∧ M 2 i 1 ≤ 4) ∧ (∀ q, q < 2 * w - 1 → 0 ≤ M 3 i q ∧ M 3 i q < p) ∧ (∀ q, q < w → 0 ≤ M 4 i q ∧ M 4 i q < p) ∧ (0 ≤ M 2 i 2 ∧ M 2 i 2 ≤ 2147483647)
theorem kd5 {x : Int} (h : 0 ≤ x ∧ x ≤ 4) : x = 0 ∨ x = 1 ∨ x = 2 ∨ x = 3 ∨ x = 4 := by omega
abbrev eM (M : fM) (i w : Nat) (p : Int) : Nat → Nat → Int := ent p w (M 2 i 1) (M 3 i)
set_option maxHeartbeats 4000000 in
set_option maxRecDepth 100000 in
theorem fill_i {g : fG} {M : fM} {p : Int} {i w n : Nat} {C : Nat → Nat → Int} (hs : sOk M i w p) (hp : 2 ≤ p ∧ p ≤ 97) (hn : n ≤ w) {a : Nat} {Q : Option fV → fM → Prop} (ha : a < n) (hk : fAt g Y_X1_fill 8 [some (vr 8 0), some (vr 2 i), some (vi p), some (vi (n : Int)), some (vi ((a : Int) + 1)), none] [] (wC M (fC C (eM M i w p) n (a + 1) 0)) Q) :
    ∀ (m b : Nat), b + m = n → fAt g Y_X1_fill 17 [some (vr 8 0), some (vr 2 i), some (vi p), some (vi (n : Int)), some (vi (a : Int)), some (vi (b : Int))] [] (wC M (fC C (eM M i w p) n a b)) Q := by
  have hw1 := hs.2.1
  intro m
  induction m with
  | zero =>
    intro b hm
    have e : b = n := by omega
    subst e
    refine st_iload dX1_fill_17 rfl ?_
    refine st_iload_n dX1_fill_19 rfl ?_
    refine st_icmp_ge 52 dX1_fill_20 (by decide) (fun h20 => ?_) (fun h20 => ?_)
    · skip
      refine st_iinc (ls' := [some (vr 8 0), some (vr 2 i), some (vi p), some (vi (b : Int)), some (vi ((a : Int) + 1)), some (vi (b : Int))]) dX1_fill_52 rfl (by omega) (by decide) rfl rfl ?_
      refine st_goto 8 dX1_fill_55 (by decide) ?_
      refine fAt_del 5 rfl ?_
      refine fAt_m (congrArg (wC M) (fC_r C (eM M i w p) b a)) ?_
      exact hk
    · skip
      exact absurd h20 (by omega)
  | succ m ih =>
    intro b hm
    refine st_iload dX1_fill_17 rfl ?_
    refine st_iload_n dX1_fill_19 rfl ?_
    refine st_icmp_ge 52 dX1_fill_20 (by decide) (fun h20 => ?_) (fun h20 => ?_)
    · skip
      exact absurd h20 (by omega)
    · skip
      refine st_aload_n dX1_fill_23 rfl ?_
      refine st_getr (i' := 0) dX1_fill_24 fl_X1_11 rfl rfl rfl (fun _ => by decide) ?_
      refine st_iload dX1_fill_27 rfl ?_
      refine st_aald (j := a) (i' := a) dX1_fill_29 rfl rfl rfl rfl ⟨_, rfl, rfl⟩ rfl (show a < 11 from by omega) rfl (fun _ => show a < 11 from by omega) ?_
      refine st_iload dX1_fill_30 rfl ?_
      refine st_aload_n dX1_fill_32 rfl ?_
      refine st_aload_n dX1_fill_33 rfl ?_
      refine st_get dX1_fill_34 fl_X1_31 rfl rfl rfl ?_
      refine fAt_v (x' := M 2 i 1) rfl ?_
      refine st_iload dX1_fill_37 rfl ?_
      refine st_iload dX1_fill_39 rfl ?_
      refine st_iload_n dX1_fill_41 rfl ?_
      refine st_callVi [vi (M 2 i 1), vi (a : Int), vi (b : Int), vi p] [vi (b : Int), vr 10 a] dX1_fill_42 vl_X1_36 rfl rfl rfl rfl (Nat.le_of_ble_eq_true rfl) (by decide) (c_cellAt (M := wC M (fC C (eM M i w p) n a b)) hs.1 hs.2.1 (by omega) (by omega) (kd5 hs.2.2.1) hp hs.2.2.2.1) (fun z M1 q42 => ?_)
      obtain ⟨rfl, rfl⟩ := q42
      refine st_iast (j := b) dX1_fill_45 rfl rfl rfl rfl (by omega) ?_
      refine fAt_m (wC_up _ _ _ _ _) ?_
      refine fAt_m (congrArg (wC M) (fC_s C (eM M i w p) n a b)) ?_
      refine st_iinc (ls' := [some (vr 8 0), some (vr 2 i), some (vi p), some (vi (n : Int)), some (vi (a : Int)), some (vi ((b : Int) + 1))]) dX1_fill_46 rfl (by omega) (by decide) rfl rfl ?_
      refine st_goto 17 dX1_fill_49 (by decide) ?_
      exact ih (b + 1) (by omega)
set_option maxHeartbeats 4000000 in
set_option maxRecDepth 100000 in
theorem fill_o {g : fG} {M : fM} {p : Int} {i w n : Nat} {C : Nat → Nat → Int} (hs : sOk M i w p) (hp : 2 ≤ p ∧ p ≤ 97) (hn : n ≤ w) :
    ∀ (m a : Nat), a + m = n → fAt g Y_X1_fill 8 [some (vr 8 0), some (vr 2 i), some (vi p), some (vi (n : Int)), some (vi (a : Int)), none] [] (wC M (fC C (eM M i w p) n a 0)) (fN (fun M' => ∃ C', M' = wC M C' ∧ (∀ r c, r < n → c < n → C' r c = eM M i w p r c) ∧ (∀ r c, ¬ (r < n ∧ c < n) → C' r c = C r c))) := by
  have hw1 := hs.2.1
  intro m
  induction m with
  | zero =>
    intro a hm
    have e : a = n := by omega
    subst e
    refine st_iload dX1_fill_8 rfl ?_
    refine st_iload_n dX1_fill_10 rfl ?_
    refine st_icmp_ge 58 dX1_fill_11 (by decide) (fun h11 => ?_) (fun h11 => ?_)
    · skip
      refine st_return dX1_fill_58 rfl ⟨rfl, ⟨_, rfl, fun r c h1 h2 => by unfold fC; rw [if_pos (Or.inl ⟨h1, h2⟩)], fun r c h => by unfold fC; rw [if_neg (by omega)]⟩⟩
    · skip
      exact absurd h11 (by omega)
  | succ m ih =>
    intro a hm
    refine st_iload dX1_fill_8 rfl ?_
    refine st_iload_n dX1_fill_10 rfl ?_
    refine st_icmp_ge 58 dX1_fill_11 (by decide) (fun h11 => ?_) (fun h11 => ?_)
    · skip
      exact absurd h11 (by omega)
    · skip
      refine st_iconst dX1_fill_14 (by decide) ?_
      refine st_istore (ls' := [some (vr 8 0), some (vr 2 i), some (vi p), some (vi (n : Int)), some (vi (a : Int)), some (vi 0)]) dX1_fill_15 (by decide) rfl rfl ?_
      exact fill_i hs hp hn (by omega) (ih (a + 1) (by omega)) n 0 (by omega)
set_option maxHeartbeats 4000000 in
set_option maxRecDepth 100000 in
theorem c_fill {g : fG} {M : fM} {p q : Int} {i w n : Nat} (hg : gOk q M) (hp : pOk p) (hs : sOk M i w p) (hn : n ≤ w) :
    fCv g Y_X1_fill [vr 8 0, vr 2 i, vi p, vi (n : Int)] M (fun M' => ∃ f C', M' = wC (wG M p f) C' ∧ gOk p (wG M p f) ∧ (∀ r c, r < n → c < n → C' r c = eM M i w p r c)) := by
  have hp2 := hp.1
  have hw1 := hs.2.1
  refine fCv_of _ [some (vr 8 0), some (vr 2 i), some (vi p), some (vi (n : Int)), none, none] (by decide) (Nat.le_of_ble_eq_true rfl) rfl (fun h => h) ?_
  refine st_aload_n dX1_fill_0 rfl ?_
  refine st_iload_n dX1_fill_1 rfl ?_
  refine st_callVv [vi p] [] dX1_fill_2 vl_X1_27 rfl rfl rfl rfl (Nat.le_of_ble_eq_true rfl) (by decide) (c_usePrime hg hp) (fun M1 q2 => ?_)
  obtain ⟨f, rfl, hg1⟩ := q2
  refine st_iconst dX1_fill_5 (by decide) ?_
  refine st_istore (ls' := [some (vr 8 0), some (vr 2 i), some (vi p), some (vi (n : Int)), some (vi 0), none]) dX1_fill_6 (by decide) rfl rfl ?_
  refine fAt_m (wC_self _).symm ?_
  refine fAt_m (congrArg (wC (wG M p f)) (fC_0 _ (eM (wG M p f) i w p) n).symm) ?_
  refine fAt_q (fun r M' h => ?_) (fill_o (M := wG M p f) (i := i) (w := w) (p := p) hs hp.1 hn n 0 (by omega))
  obtain ⟨e, C', h1, h2, h3⟩ := h
  exact ⟨e, f, C', h1, hg1, h2⟩
