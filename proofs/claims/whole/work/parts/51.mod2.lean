/-! ===== the reference: corners, equations ===== -/
def flA (C E : Nat → Nat → Int) (n a c : Nat) : Nat → Nat → Int := fun i j => if i < a then (if j < n then E i j else 0) else if i = a ∧ j < c then 0 else C i j
def flB (C E : Nat → Nat → Int) (n a b : Nat) : Nat → Nat → Int := fun i j => if i < a then (if j < n then E i j else 0) else if i = a then (if j < b then E i j else 0) else C i j
theorem flA_s (C E : Nat → Nat → Int) (n a c : Nat) : (fun i j => if i = a ∧ j = c then 0 else flA C E n a c i j) = flA C E n a (c + 1) := by
  funext i j
  simp only [flA]
  grind (splits := 40)
theorem flB_s (C E : Nat → Nat → Int) (n a b : Nat) : (fun i j => if i = a ∧ j = b then E a b else flB C E n a b i j) = flB C E n a (b + 1) := by
  funext i j
  simp only [flB]
  grind (splits := 40)
theorem flA_B (M : fM) (C E : Nat → Nat → Int) (n a : Nat) : wW M (flA C E n a 13) = wW M (flB C E n a 0) := wW_c (fun i j hj => by
  simp only [flA, flB]
  grind (splits := 40))
theorem flB_A (C E : Nat → Nat → Int) (n a : Nat) : flB C E n a n = flA C E n (a + 1) 0 := by
  funext i j
  simp only [flA, flB]
  grind (splits := 40)
theorem flA_0 (C E : Nat → Nat → Int) (n : Nat) : flA C E n 0 0 = C := by
  funext i j
  unfold flA
  rw [if_neg (by omega), if_neg (by omega)]
set_option maxHeartbeats 4000000 in
set_option maxRecDepth 100000 in
theorem fills_2 {g : fG} {M : fM} {w : Nat} {p : Int} (hn : nOk M w p) {n : Nat} {kd : Int} {C : Nat → Nat → Int} (hnw : n ≤ w) (hkd : 0 ≤ kd ∧ kd ≤ 4) {a : Nat} {Q : Option fV → fM → Prop} (ha : a < n) (hk : fAt g Y_X7_fills 2 [some (vr 22 0), some (vi (n : Int)), some (vi kd), some (vi ((a : Int) + 1)), none] [] (wW M (flA C (ent p w kd (lL M)) n (a + 1) 0)) Q) :
    ∀ (m b : Nat), b + m = n → fAt g Y_X7_fills 39 [some (vr 22 0), some (vi (n : Int)), some (vi kd), some (vi (a : Int)), some (vi (b : Int))] [] (wW M (flB C (ent p w kd (lL M)) n a b)) Q := by
  have hw1 := hn.2.2.2.1
  have hp2 := hn.2.2.1.1
  intro m
  induction m with
  | zero =>
    intro b hm
    refine st_iload dX7_fills_39 rfl ?_
    refine st_iload_n dX7_fills_41 rfl ?_
    refine st_icmp_ge 71 dX7_fills_42 (by decide) (fun h42 => ?_) (fun h42 => ?_)
    · skip
      refine st_iinc (ls' := [some (vr 22 0), some (vi (n : Int)), some (vi kd), some (vi ((a : Int) + 1)), some (vi (b : Int))]) dX7_fills_71 rfl (by omega) (by decide) rfl rfl ?_
      refine st_goto 2 dX7_fills_74 (by decide) ?_
      refine fAt_del 4 rfl ?_
      refine fAt_m (congrArg (wW M) (show flB C (ent p w kd (lL M)) n a b = flA C (ent p w kd (lL M)) n (a + 1) 0 by rw [show b = n by omega, flB_A])) ?_
      exact hk
    · skip
      exact absurd h42 (by omega)
  | succ m ih =>
    intro b hm
    refine st_iload dX7_fills_39 rfl ?_
    refine st_iload_n dX7_fills_41 rfl ?_
    refine st_icmp_ge 71 dX7_fills_42 (by decide) (fun h42 => ?_) (fun h42 => ?_)
    · skip
      exact absurd h42 (by omega)
    · skip
      refine st_aload_n dX7_fills_45 rfl ?_
      refine st_getr (i' := 0) dX7_fills_46 fl_X7_13 rfl rfl rfl (fun _ => by decide) ?_
      refine st_bipush dX7_fills_49 (by decide) ?_
      refine st_iload_n dX7_fills_51 rfl ?_
      refine st_imul dX7_fills_52 (by omega) ?_
      refine st_iload dX7_fills_53 rfl ?_
      refine st_iadd dX7_fills_55 (by omega) ?_
      refine st_aload_n dX7_fills_56 rfl ?_
      refine st_iload_n dX7_fills_57 rfl ?_
      refine st_iload_n dX7_fills_58 rfl ?_
      refine st_iload dX7_fills_59 rfl ?_
      refine st_callVi [vi kd, vi (a : Int), vi (b : Int)] [vi ((13 * (a : Int)) + (b : Int)), vr 24 0] dX7_fills_61 vl_X7_65 rfl rfl rfl rfl (Nat.le_of_ble_eq_true rfl) (by decide) (m_entryBy (M := (wW M (flB C (ent p w kd (lL M)) n a b))) (w := w) (p := p) (nOk_k hn (fun b => wW_ne (by decide))) (by omega) (by omega) (kd5 hkd)) (fun z Me qe => ?_)
      obtain ⟨rfl, q⟩ := qe
      subst Me
      refine st_iast (j := ((13 * a) + b)) dX7_fills_64 rfl rfl rfl (by omega) (by omega) ?_
      refine fAt_m (wW_up _ _ _ _ _ (by omega)) ?_
      refine fAt_m (congrArg (wW M) (flB_s C (ent p w kd (lL M)) n a b)) ?_
      refine st_iinc (ls' := [some (vr 22 0), some (vi (n : Int)), some (vi kd), some (vi (a : Int)), some (vi ((b : Int) + 1))]) dX7_fills_65 rfl (by omega) (by decide) rfl rfl ?_
      refine st_goto 39 dX7_fills_68 (by decide) ?_
      exact ih (b + 1) (by omega)
set_option maxHeartbeats 4000000 in
set_option maxRecDepth 100000 in
theorem fills_1 {g : fG} {M : fM} {w : Nat} {p : Int} (hn : nOk M w p) {n : Nat} {kd : Int} {C : Nat → Nat → Int} (hnw : n ≤ w) (hkd : 0 ≤ kd ∧ kd ≤ 4) {a : Nat} {Q : Option fV → fM → Prop} (ha : a < n) (hk : fAt g Y_X7_fills 2 [some (vr 22 0), some (vi (n : Int)), some (vi kd), some (vi ((a : Int) + 1)), none] [] (wW M (flA C (ent p w kd (lL M)) n (a + 1) 0)) Q) :
    ∀ (m b : Nat), b + m = 13 → fAt g Y_X7_fills 10 [some (vr 22 0), some (vi (n : Int)), some (vi kd), some (vi (a : Int)), some (vi (b : Int))] [] (wW M (flA C (ent p w kd (lL M)) n a b)) Q := by
  have hw1 := hn.2.2.2.1
  have hp2 := hn.2.2.1.1
  intro m
  induction m with
  | zero =>
    intro b hm
    refine st_iload dX7_fills_10 rfl ?_
    refine st_bipush dX7_fills_12 (by decide) ?_
    refine st_icmp_ge 36 dX7_fills_14 (by decide) (fun h14 => ?_) (fun h14 => ?_)
    · skip
      refine st_iconst dX7_fills_36 (by decide) ?_
      refine st_istore (ls' := [some (vr 22 0), some (vi (n : Int)), some (vi kd), some (vi (a : Int)), some (vi 0)]) dX7_fills_37 (by decide) rfl rfl ?_
      refine fAt_m (show (wW M (flA C (ent p w kd (lL M)) n a b)) = (wW M (flB C (ent p w kd (lL M)) n a 0)) by rw [show b = 13 by omega]; exact flA_B M C (ent p w kd (lL M)) n a) ?_
      exact fills_2 hn hnw hkd ha hk n 0 (by omega)
    · skip
      exact absurd h14 (by omega)
  | succ m ih =>
    intro b hm
    refine st_iload dX7_fills_10 rfl ?_
    refine st_bipush dX7_fills_12 (by decide) ?_
    refine st_icmp_ge 36 dX7_fills_14 (by decide) (fun h14 => ?_) (fun h14 => ?_)
    · skip
      exact absurd h14 (by omega)
    · skip
      refine st_aload_n dX7_fills_17 rfl ?_
      refine st_getr (i' := 0) dX7_fills_18 fl_X7_13 rfl rfl rfl (fun _ => by decide) ?_
      refine st_bipush dX7_fills_21 (by decide) ?_
      refine st_iload_n dX7_fills_23 rfl ?_
      refine st_imul dX7_fills_24 (by omega) ?_
      refine st_iload dX7_fills_25 rfl ?_
      refine st_iadd dX7_fills_27 (by omega) ?_
      refine st_iconst dX7_fills_28 (by decide) ?_
      refine st_iast (j := ((13 * a) + b)) dX7_fills_29 rfl rfl rfl (by omega) (by omega) ?_
      refine fAt_m (wW_up _ _ _ _ _ (by omega)) ?_
      refine fAt_m (congrArg (wW M) (flA_s C (ent p w kd (lL M)) n a b)) ?_
      refine st_iinc (ls' := [some (vr 22 0), some (vi (n : Int)), some (vi kd), some (vi (a : Int)), some (vi ((b : Int) + 1))]) dX7_fills_30 rfl (by omega) (by decide) rfl rfl ?_
      refine st_goto 10 dX7_fills_33 (by decide) ?_
      exact ih (b + 1) (by omega)
set_option maxHeartbeats 4000000 in
set_option maxRecDepth 100000 in
theorem fills_o {g : fG} {M : fM} {w : Nat} {p : Int} (hn : nOk M w p) {n : Nat} {kd : Int} {C : Nat → Nat → Int} (hnw : n ≤ w) (hkd : 0 ≤ kd ∧ kd ≤ 4) :
    ∀ (m a : Nat), a + m = n → fAt g Y_X7_fills 2 [some (vr 22 0), some (vi (n : Int)), some (vi kd), some (vi (a : Int)), none] [] (wW M (flA C (ent p w kd (lL M)) n a 0)) (fN (fun M' => ∃ D, M' = wW M D ∧ (∀ i j, i < n → j < n → D i j = ent p w kd (lL M) i j) ∧ (∀ i j, i < n → n ≤ j → D i j = 0))) := by
  have hw1 := hn.2.2.2.1
  have hp2 := hn.2.2.1.1
  intro m
  induction m with
  | zero =>
    intro a hm
    refine st_iload_n dX7_fills_2 rfl ?_
    refine st_iload_n dX7_fills_3 rfl ?_
    refine st_icmp_ge 77 dX7_fills_4 (by decide) (fun h4 => ?_) (fun h4 => ?_)
    · skip
      refine st_return dX7_fills_77 rfl ⟨rfl, ⟨_, rfl, fun i j hi hj => by unfold flA; rw [if_pos (by omega), if_pos hj], fun i j hi hj => by unfold flA; rw [if_pos (by omega), if_neg (by omega)]⟩⟩
    · skip
      exact absurd h4 (by omega)
  | succ m ih =>
    intro a hm
    refine st_iload_n dX7_fills_2 rfl ?_
    refine st_iload_n dX7_fills_3 rfl ?_
    refine st_icmp_ge 77 dX7_fills_4 (by decide) (fun h4 => ?_) (fun h4 => ?_)
    · skip
      exact absurd h4 (by omega)
    · skip
      refine st_iconst dX7_fills_7 (by decide) ?_
      refine st_istore (ls' := [some (vr 22 0), some (vi (n : Int)), some (vi kd), some (vi (a : Int)), some (vi 0)]) dX7_fills_8 (by decide) rfl rfl ?_
      exact fills_1 hn hnw hkd (by omega) (ih (a + 1) (by omega)) 13 0 (by omega)
set_option maxHeartbeats 4000000 in
set_option maxRecDepth 100000 in
theorem m_fills {g : fG} {M : fM} {w : Nat} {p : Int} (hn : nOk M w p) {n : Nat} {kd : Int} (hnw : n ≤ w) (hkd : 0 ≤ kd ∧ kd ≤ 4) :
    fCv g Y_X7_fills [vr 22 0, vi (n : Int), vi kd] M (fun M' => ∃ D, M' = wW M D ∧ (∀ i j, i < n → j < n → D i j = ent p w kd (lL M) i j) ∧ (∀ i j, i < n → n ≤ j → D i j = 0)) := by
  have hw1 := hn.2.2.2.1
  have hp2 := hn.2.2.1.1
  refine fCv_of _ [some (vr 22 0), some (vi (n : Int)), some (vi kd), none, none] (by decide) (Nat.le_of_ble_eq_true rfl) rfl (fun h => h) ?_
  refine st_iconst dX7_fills_0 (by decide) ?_
  refine st_istore_n (ls' := [some (vr 22 0), some (vi (n : Int)), some (vi kd), some (vi 0), none]) dX7_fills_1 (by decide) rfl rfl ?_
  refine fAt_m (wW_self M).symm ?_
  refine fAt_m (congrArg (wW M) (flA_0 _ (ent p w kd (lL M)) n).symm) ?_
  exact fills_o hn hnw hkd n 0 (by omega)
theorem dI_congr {p : Int} {n : Nat} {A C D : Nat → Nat → Int} {c : Nat} {prod : Int} (e : ∀ i j, i < n → j < n → C i j = D i j) (h : dI p n A c prod C) : dI p n A c prod D := by
  refine ⟨fun i j hi hj => by rw [← e i j hi hj]; exact h.1 i j hi hj, ?_⟩
  rw [← h.2]
  by_cases hc : c ≤ n
  · rw [dt_congr (A := sbm c D) (B := sbm c C) (fun i j hi hj => (e _ _ (by omega) (by omega)).symm)]
  · rw [show n - c = 0 by omega]; rfl
theorem dI_tk13 {p : Int} {n : Nat} {A C : Nat → Nat → Int} {c : Nat} {prod : Int} {s r : Nat} {t : Int} (hp : 0 < p) (hn : n ≤ 13) (h : dI p n A c prod C) (h1 : c ≤ s) (h2 : s < n) (h3 : c ≤ r) (h4 : r < n) (h5 : s ≠ r) : dI p n A c prod (rTk p C s r t 0 13) := by
  refine dI_congr (fun i j hi hj => ?_) (dI_tk (a := 0) (t := t) hp h (Nat.zero_le _) h1 h2 h3 h4 h5)
  unfold rTk
  by_cases e : i = s
  · rw [if_pos ⟨e, by omega, hj⟩, if_pos ⟨e, by omega, by omega⟩]
  · rw [if_neg (fun q => e q.1), if_neg (fun q => e q.1)]
theorem swp_comm (a b : Nat) (A : Nat → Nat → Int) : swp a b A = swp b a A := by
  funext i
  unfold swp
  by_cases e1 : i = a
  · by_cases e2 : i = b
    · rw [if_pos e1, if_pos e2, ← e1, ← e2]
    · rw [if_pos e1, if_neg e2, if_pos e1]
  · by_cases e2 : i = b
    · rw [if_neg e1, if_pos e2, if_pos e2]
    · rw [if_neg e1, if_neg e2, if_neg e2, if_neg e1]
theorem dI_swp {p : Int} {n : Nat} {A C : Nat → Nat → Int} {c r : Nat} {prod : Int} (h : dI p n A c prod C) (h1 : c < r) (h2 : r < n) : dI p n A c ((p - prod) % p) (swp r c C) := by
  refine ⟨fun i j hi hj => ?_, ?_⟩
  · rw [swp_at]
    split
    · exact h.1 c j (by omega) hj
    · split
      · exact h.1 r j h2 hj
      · exact h.1 i j hi hj
  · have e : sbm c (swp r c C) = swp 0 (r - c) (sbm c C) := by
      funext i j
      show swp r c C (c + i) (c + j) = swp 0 (r - c) (sbm c C) i j
      rw [swp_at, swp_at]
      by_cases e1 : i = 0
      · rw [if_pos e1, if_neg (by omega), if_pos (by omega)]
        show C r (c + j) = C (c + (r - c)) (c + j)
        rw [show c + (r - c) = r by omega]
      · rw [if_neg e1]
        by_cases e2 : i = r - c
        · rw [if_pos e2, if_pos (by omega)]
          show C c (c + j) = C (c + 0) (c + j)
          rw [Nat.add_zero]
        · rw [if_neg e2, if_neg (by omega), if_neg (by omega)]
    rw [e, dt_swap (r - c - 1) (sbm c C) (by omega) (by omega), emm, ← h.2, Int.mul_neg, Int.sub_mul, Int.neg_sub, Int.sub_emod, Int.mul_emod_right, Int.sub_zero, Int.emod_emod]
def rg (p : Int) (R : Nat) (C : Nat → Nat → Int) : Prop := ∀ i j, i < R → j < 13 → 0 ≤ C i j ∧ C i j < p
theorem rg_swp {p : Int} {R a b : Nat} {C : Nat → Nat → Int} (h : rg p R C) (ha : a < R) (hb : b < R) : rg p R (swp a b C) := fun i j hi hj => by
  rw [swp_at]
  split
  · exact h b j hb hj
  · split
    · exact h a j ha hj
    · exact h i j hi hj
set_option maxHeartbeats 4000000 in
set_option maxRecDepth 100000 in
theorem corner_i {g : fG} {M : fM} {p : Int} {A : Nat → Nat → Int} {n c r : Nat} {al by_ piv prod : Int} {Q : Option fV → fM → Prop} (hp : M 23 0 2 = p) (hpk : pOk p) (hn : n ≤ 6) (hc : c < n) (hal : al = (prod * piv) % p) (hby0 : 0 ≤ by_ ∧ by_ < p) (hby : (piv * by_) % p = 1) (hk : ∀ C, dI p n A (c + 1) al C → rg p n C → fAt g Y_X7_cornerOf 25 [some (vr 22 0), some (vi (n : Int)), some (vi p), some (vi al), some (vi ((c : Int) + 1)), none, none, none] [] (wW M C) Q) :
    ∀ (m b : Nat) (C : Nat → Nat → Int), c < b → b + m = n → dI p n A c prod C → rg p n C → C c c = piv → (∀ q, c < q → q < b → C q c = 0) → fAt g Y_X7_cornerOf 113 [some (vr 22 0), some (vi (n : Int)), some (vi p), some (vi al), some (vi (c : Int)), some (vi (r : Int)), some (vi by_), some (vi (b : Int))] [] (wW M C) Q := by
  have hp2 := hpk.1
  intro m
  induction m with
  | zero =>
    intro b C hb hm0 hd hrg hpv h0
    refine st_iload dX7_cornerOf_113 rfl ?_
    refine st_iload_n dX7_cornerOf_115 rfl ?_
    refine st_icmp_ge 151 dX7_cornerOf_116 (by decide) (fun h116 => ?_) (fun h116 => ?_)
    · skip
      refine st_iinc (ls' := [some (vr 22 0), some (vi (n : Int)), some (vi p), some (vi al), some (vi ((c : Int) + 1)), some (vi (r : Int)), some (vi by_), some (vi (b : Int))]) dX7_cornerOf_151 rfl (by omega) (by decide) rfl rfl ?_
      refine st_goto 25 dX7_cornerOf_154 (by decide) ?_
      refine fAt_del 5 rfl ?_
      refine fAt_del 6 rfl ?_
      refine fAt_del 7 rfl ?_
      exact hk C (by rw [hal, ← hpv]; exact dI_next (by omega) hd (fun q h1 h2 => h0 q h1 (by omega))) hrg
    · skip
      exact absurd h116 (by omega)
  | succ m ih =>
    intro b C hb hm0 hd hrg hpv h0
    refine st_iload dX7_cornerOf_113 rfl ?_
    refine st_iload_n dX7_cornerOf_115 rfl ?_
    refine st_icmp_ge 151 dX7_cornerOf_116 (by decide) (fun h116 => ?_) (fun h116 => ?_)
    · skip
      exact absurd h116 (by omega)
    · skip
      refine st_aload_n dX7_cornerOf_119 rfl ?_
      refine st_iload dX7_cornerOf_120 rfl ?_
      refine st_iload dX7_cornerOf_122 rfl ?_
      refine st_aload_n dX7_cornerOf_124 rfl ?_
      refine st_getr (i' := 0) dX7_cornerOf_125 fl_X7_13 rfl rfl rfl (fun _ => by decide) ?_
      refine st_bipush dX7_cornerOf_128 (by decide) ?_
      refine st_iload dX7_cornerOf_130 rfl ?_
      refine st_imul dX7_cornerOf_132 (by omega) ?_
      refine st_iload dX7_cornerOf_133 rfl ?_
      refine st_iadd dX7_cornerOf_135 (by omega) ?_
      refine st_iald (j := ((13 * b) + c)) dX7_cornerOf_136 rfl rfl rfl (by omega) (by omega) ?_
      refine fAt_v (x' := C b c) (wW_at (by omega)) ?_
      have hbc := hrg b c (by omega) (by omega)
      have hm := mulb (x := C b c) (y := by_) (a := 97) (b := 97) hbc.1 hby0.1 (by omega) (by omega)
      refine st_iload dX7_cornerOf_137 rfl ?_
      refine st_imul dX7_cornerOf_139 (by omega) ?_
      refine st_iload_n dX7_cornerOf_140 rfl ?_
      refine st_irem dX7_cornerOf_141 (by omega) (by omega) ?_
      refine st_callVv [vi (b : Int), vi (c : Int), vi (((C b c) * by_) % p)] [] dX7_cornerOf_142 vl_X7_83 rfl rfl rfl rfl (Nat.le_of_ble_eq_true rfl) (by decide) (m_takes (M := M) (C := C) (s := b) (q := c) hp hp2 (by omega) (by omega) (modb (by omega)) (fun j hj => hrg b j (by omega) hj) (fun j hj => hrg c j (by omega) hj)) (fun Mt qt => ?_)
      subst qt
      refine st_iinc (ls' := [some (vr 22 0), some (vi (n : Int)), some (vi p), some (vi al), some (vi (c : Int)), some (vi (r : Int)), some (vi by_), some (vi ((b : Int) + 1))]) dX7_cornerOf_145 rfl (by omega) (by decide) rfl rfl ?_
      refine st_goto 113 dX7_cornerOf_148 (by decide) ?_
      refine ih (b + 1) (rTk p C b c ((C b c * by_) % p) 0 13) (by omega) (by omega) (dI_tk13 (by omega) (by omega) hd (by omega) (by omega) (Nat.le_refl c) (by omega) (by omega)) (rTk_rng (by omega) hrg) (by rw [rTk_ne (by omega)]; exact hpv) ?_
      intro q h1 h2
      by_cases e : q = b
      · rw [e, rTk_at (Nat.zero_le _) (by omega), hpv]; exact clr0 hby (by omega)
      · rw [rTk_ne (by omega)]; exact h0 q h1 (by omega)
set_option maxHeartbeats 4000000 in
set_option maxRecDepth 100000 in
theorem corner_m {g : fG} {M : fM} {p : Int} {w : Nat} {A : Nat → Nat → Int} {n c r : Nat} {prod : Int} {C : Nat → Nat → Int} {Q : Option fV → fM → Prop} (hnk : nOk M w p) (hn : n ≤ 6) (hc : c < n) (hd : dI p n A c prod C) (hrg : rg p n C) (hnz : C c c ≠ 0) (hpr : 0 ≤ prod ∧ prod < p) (hk : ∀ al C, 0 ≤ al → al < p → dI p n A (c + 1) al C → rg p n C → fAt g Y_X7_cornerOf 25 [some (vr 22 0), some (vi (n : Int)), some (vi p), some (vi al), some (vi ((c : Int) + 1)), none, none, none] [] (wW M C) Q) : fAt g Y_X7_cornerOf 76 [some (vr 22 0), some (vi (n : Int)), some (vi p), some (vi prod), some (vi (c : Int)), some (vi (r : Int)), none, none] [] (wW M C) Q := by
  have hp2 := hnk.2.2.1.1
  have hcc := hrg c c (by omega) (by omega)
  refine st_iload_n dX7_cornerOf_76 rfl ?_
  refine st_aload_n dX7_cornerOf_77 rfl ?_
  refine st_getr (i' := 0) dX7_cornerOf_78 fl_X7_13 rfl rfl rfl (fun _ => by decide) ?_
  refine st_bipush dX7_cornerOf_81 (by decide) ?_
  refine st_iload dX7_cornerOf_83 rfl ?_
  refine st_imul dX7_cornerOf_85 (by omega) ?_
  refine st_iald (j := (13 * c + c)) dX7_cornerOf_86 rfl rfl rfl (by omega) (by omega) ?_
  refine fAt_v (x' := C c c) (wW_at (by omega)) ?_
  have hm := mulb (x := prod) (y := C c c) (a := 97) (b := 97) (by omega) hcc.1 (by omega) (by omega)
  refine st_imul dX7_cornerOf_87 (by omega) ?_
  refine st_iload_n dX7_cornerOf_88 rfl ?_
  refine st_irem dX7_cornerOf_89 (by omega) (by omega) ?_
  refine st_istore_n (ls' := [some (vr 22 0), some (vi (n : Int)), some (vi p), some (vi ((prod * (C c c)) % p)), some (vi (c : Int)), some (vi (r : Int)), none, none]) dX7_cornerOf_90 (by decide) rfl rfl ?_
  refine st_aload_n dX7_cornerOf_91 rfl ?_
  refine st_aload_n dX7_cornerOf_92 rfl ?_
  refine st_getr (i' := 0) dX7_cornerOf_93 fl_X7_13 rfl rfl rfl (fun _ => by decide) ?_
  refine st_bipush dX7_cornerOf_96 (by decide) ?_
  refine st_iload dX7_cornerOf_98 rfl ?_
  refine st_imul dX7_cornerOf_100 (by omega) ?_
  refine st_iald (j := (13 * c + c)) dX7_cornerOf_101 rfl rfl rfl (by omega) (by omega) ?_
  refine fAt_v (x' := C c c) (wW_at (by omega)) ?_
  refine st_callVi [vi (C c c)] [] dX7_cornerOf_102 vl_X7_79 rfl rfl rfl rfl (Nat.le_of_ble_eq_true rfl) (by decide) (m_inverseOf (M := wW M C) (w := w) (p := p) (nOk_k hnk (fun b => wW_ne (by decide))) hcc hnz) (fun iv Mi qi => ?_)
  obtain ⟨⟨i1, i2, i3⟩, q⟩ := qi
  subst Mi
  refine st_istore (ls' := [some (vr 22 0), some (vi (n : Int)), some (vi p), some (vi ((prod * (C c c)) % p)), some (vi (c : Int)), some (vi (r : Int)), some (vi iv), none]) dX7_cornerOf_105 (by decide) rfl rfl ?_
  refine st_iload dX7_cornerOf_107 rfl ?_
  refine st_iconst dX7_cornerOf_109 (by decide) ?_
  refine st_iadd dX7_cornerOf_110 (by omega) ?_
  refine st_istore (ls' := [some (vr 22 0), some (vi (n : Int)), some (vi p), some (vi ((prod * (C c c)) % p)), some (vi (c : Int)), some (vi (r : Int)), some (vi iv), some (vi ((c : Int) + 1))]) dX7_cornerOf_111 (by decide) rfl rfl ?_
  exact corner_i hnk.2.1 hnk.2.2.1 hn hc rfl ⟨i1, i2⟩ i3 (fun D h1 h2 => hk _ D (modb (by omega)).1 (modb (by omega)).2 h1 h2) (n - (c + 1)) (c + 1) C (by omega) (by omega) hd hrg rfl (fun q h1 h2 => absurd h2 (by omega))
set_option maxHeartbeats 4000000 in
set_option maxRecDepth 100000 in
theorem corner_o {g : fG} {M : fM} {w : Nat} {p : Int} {A : Nat → Nat → Int} {n : Nat} (hnk : nOk M w p) (hn : n ≤ 6) :
    ∀ (m c : Nat) (prod : Int) (C : Nat → Nat → Int), c + m = n → 0 ≤ prod → prod < p → dI p n A c prod C → rg p n C → fAt g Y_X7_cornerOf 25 [some (vr 22 0), some (vi (n : Int)), some (vi p), some (vi prod), some (vi (c : Int)), none, none, none] [] (wW M C) (fI (fun z M' => z = dt n A % p ∧ ∃ D, M' = wW M D)) := by
  have hp2 := hnk.2.2.1.1
  intro m
  induction m with
  | zero =>
    intro c prod C hm0 hp0 hp1 hd hrg
    refine st_iload dX7_cornerOf_25 rfl ?_
    refine st_iload_n dX7_cornerOf_27 rfl ?_
    refine st_icmp_ge 157 dX7_cornerOf_28 (by decide) (fun h28 => ?_) (fun h28 => ?_)
    · skip
      refine st_iload_n dX7_cornerOf_157 rfl ?_
      refine st_ireturn dX7_cornerOf_158 rfl ⟨_, rfl, ⟨dI_end (by rw [show c = n by omega] at hd; exact hd) hp0 hp1, C, rfl⟩⟩
    · skip
      exact absurd h28 (by omega)
  | succ m ih =>
    intro c prod C hm0 hp0 hp1 hd hrg
    refine st_iload dX7_cornerOf_25 rfl ?_
    refine st_iload_n dX7_cornerOf_27 rfl ?_
    refine st_icmp_ge 157 dX7_cornerOf_28 (by decide) (fun h28 => ?_) (fun h28 => ?_)
    · skip
      exact absurd h28 (by omega)
    · skip
      refine st_iload_n dX7_cornerOf_31 rfl ?_
      refine st_if_eq 157 dX7_cornerOf_32 (by decide) (fun h32 => ?_) (fun h32 => ?_)
      · skip
        refine st_iload_n dX7_cornerOf_157 rfl ?_
        refine st_ireturn dX7_cornerOf_158 rfl ⟨_, rfl, ⟨by have := hd.2; rw [h32, Int.zero_mul, Int.zero_emod] at this; rw [← this]; exact h32, C, rfl⟩⟩
      · skip
        refine st_aload_n dX7_cornerOf_35 rfl ?_
        refine st_iload dX7_cornerOf_36 rfl ?_
        refine st_iload_n dX7_cornerOf_38 rfl ?_
        refine st_iload dX7_cornerOf_39 rfl ?_
        refine st_callVi [vi (c : Int), vi (n : Int), vi (c : Int)] [] dX7_cornerOf_41 vl_X7_73 rfl rfl rfl rfl (Nat.le_of_ble_eq_true rfl) (by decide) (m_pivot (M := M) (C := C) (f := c) (n := n) (c := c) (by omega) (by omega) (by omega)) (fun z Mp qp => ?_)
        obtain ⟨qp, q⟩ := qp
        subst Mp
        rcases qp with ⟨rfl, z0⟩ | ⟨r, rfl, r1, r2, r3, r4⟩
        · skip
          refine st_istore (ls' := [some (vr 22 0), some (vi (n : Int)), some (vi p), some (vi prod), some (vi (c : Int)), some (vi (-4)), none, none]) dX7_cornerOf_44 (by decide) rfl rfl ?_
          refine st_iload dX7_cornerOf_46 rfl ?_
          refine st_bipush dX7_cornerOf_48 (by decide) ?_
          refine st_icmp_ne 55 dX7_cornerOf_50 (by decide) (fun h50 => ?_) (fun h50 => ?_)
          · skip
            exact absurd rfl h50
          · skip
            refine st_iconst dX7_cornerOf_53 (by decide) ?_
            refine st_ireturn dX7_cornerOf_54 rfl ⟨_, rfl, ⟨(dI_none (by omega) hd z0).symm, C, rfl⟩⟩
        · skip
          refine st_istore (ls' := [some (vr 22 0), some (vi (n : Int)), some (vi p), some (vi prod), some (vi (c : Int)), some (vi (r : Int)), none, none]) dX7_cornerOf_44 (by decide) rfl rfl ?_
          refine st_iload dX7_cornerOf_46 rfl ?_
          refine st_bipush dX7_cornerOf_48 (by decide) ?_
          refine st_icmp_ne 55 dX7_cornerOf_50 (by decide) (fun h50 => ?_) (fun h50 => ?_)
          · skip
            refine st_iload dX7_cornerOf_55 rfl ?_
            refine st_iload dX7_cornerOf_57 rfl ?_
            refine st_icmp_eq 76 dX7_cornerOf_59 (by decide) (fun h59 => ?_) (fun h59 => ?_)
            · skip
              first
              | exact corner_m hnk hn (by omega) (dI_swp hd (by omega) (by omega)) (rg_swp hrg (by omega) (by omega)) (by rw [swp_at, if_neg (by omega), if_pos rfl]; exact r3) (modb (by omega)) (fun al D a1 a2 h1 h2 => ih (c + 1) al D (by omega) a1 a2 h1 h2)
              | exact corner_m hnk hn (by omega) hd hrg (by rw [show r = c by omega] at r3; exact r3) ⟨hp0, hp1⟩ (fun al D a1 a2 h1 h2 => ih (c + 1) al D (by omega) a1 a2 h1 h2)
            · skip
              refine st_aload_n dX7_cornerOf_62 rfl ?_
              refine st_iload dX7_cornerOf_63 rfl ?_
              refine st_iload dX7_cornerOf_65 rfl ?_
              refine st_callVv [vi (r : Int), vi (c : Int)] [] dX7_cornerOf_67 vl_X7_76 rfl rfl rfl rfl (Nat.le_of_ble_eq_true rfl) (by decide) (m_swaps (by omega) (by omega)) (fun Ms qs => ?_)
              subst qs
              refine st_iload_n dX7_cornerOf_70 rfl ?_
              refine st_iload_n dX7_cornerOf_71 rfl ?_
              refine st_isub dX7_cornerOf_72 (by omega) ?_
              refine st_iload_n dX7_cornerOf_73 rfl ?_
              refine st_irem dX7_cornerOf_74 (by omega) (by omega) ?_
              refine st_istore_n (ls' := [some (vr 22 0), some (vi (n : Int)), some (vi p), some (vi ((p - prod) % p)), some (vi (c : Int)), some (vi (r : Int)), none, none]) dX7_cornerOf_75 (by decide) rfl rfl ?_
              first
              | exact corner_m hnk hn (by omega) (dI_swp hd (by omega) (by omega)) (rg_swp hrg (by omega) (by omega)) (by rw [swp_at, if_neg (by omega), if_pos rfl]; exact r3) (modb (by omega)) (fun al D a1 a2 h1 h2 => ih (c + 1) al D (by omega) a1 a2 h1 h2)
              | exact corner_m hnk hn (by omega) hd hrg (by rw [show r = c by omega] at r3; exact r3) ⟨hp0, hp1⟩ (fun al D a1 a2 h1 h2 => ih (c + 1) al D (by omega) a1 a2 h1 h2)
          · skip
            exact absurd h50 (by omega)
abbrev eN (M : fM) (w : Nat) (p : Int) : Nat → Nat → Int := ent p w (M 23 0 1) (lL M)
theorem eN_rng {M : fM} {w : Nat} {p : Int} (hn : nOk M w p) {a b : Nat} (ha : a < w) (hb : b < w) : 0 ≤ eN M w p a b ∧ eN M w p a b < p := ent_rng (by have := hn.2.2.1.1; omega) hn.2.2.2.2.2.1 ha hb
theorem fl_rg {M : fM} {w n : Nat} {p : Int} {D : Nat → Nat → Int} (hn : nOk M w p) (hnw : n ≤ w) (h1 : ∀ i j, i < n → j < n → D i j = eN M w p i j) (h2 : ∀ i j, i < n → n ≤ j → D i j = 0) : rg p n D := fun i j hi hj => by
  have hp2 := hn.2.2.1.1
  by_cases e : j < n
  · rw [h1 i j hi e]; exact eN_rng hn (by omega) (by omega)
  · rw [h2 i j hi (by omega)]; omega
set_option maxHeartbeats 4000000 in
set_option maxRecDepth 100000 in
theorem m_cornerOf {g : fG} {M : fM} {w : Nat} {p : Int} (hn : nOk M w p) {n : Nat} (hnw : n ≤ w) :
    fCi g Y_X7_cornerOf [vr 22 0, vi (n : Int)] M (fun z M' => z = dt n (eN M w p) % p ∧ ∃ D, M' = wW M D) := by
  have hw1 := hn.2.2.2.1
  have hp2 := hn.2.2.1.1
  refine fCi_of _ [some (vr 22 0), some (vi (n : Int)), none, none, none, none, none, none] (by decide) (Nat.le_of_ble_eq_true rfl) rfl (fun h => h) ?_
  refine st_aload_n dX7_cornerOf_0 rfl ?_
  refine st_getr (i' := 0) dX7_cornerOf_1 fl_X7_7 rfl rfl rfl (fun _ => by decide) ?_
  refine st_iconst dX7_cornerOf_4 (by decide) ?_
  refine st_iald (j := 2) dX7_cornerOf_5 rfl rfl rfl rfl (by decide) ?_
  refine fAt_v (x' := p) hn.2.1 ?_
  refine st_istore_n (ls' := [some (vr 22 0), some (vi (n : Int)), some (vi p), none, none, none, none, none]) dX7_cornerOf_6 (by decide) rfl rfl ?_
  refine st_aload_n dX7_cornerOf_7 rfl ?_
  refine st_iload_n dX7_cornerOf_8 rfl ?_
  refine st_aload_n dX7_cornerOf_9 rfl ?_
  refine st_getr (i' := 0) dX7_cornerOf_10 fl_X7_7 rfl rfl rfl (fun _ => by decide) ?_
  refine st_iconst dX7_cornerOf_13 (by decide) ?_
  refine st_iald (j := 1) dX7_cornerOf_14 rfl rfl rfl rfl (by decide) ?_
  refine fAt_v (x' := M 23 0 1) rfl ?_
  refine st_callVv [vi (n : Int), vi (M 23 0 1)] [] dX7_cornerOf_15 vl_X7_69 rfl rfl rfl rfl (Nat.le_of_ble_eq_true rfl) (by decide) (m_fills hn hnw hn.2.2.2.2.1) (fun Mf qf => ?_)
  obtain ⟨D, rfl, hD1, hD2⟩ := qf
  refine st_iconst dX7_cornerOf_18 (by decide) ?_
  refine st_iload_n dX7_cornerOf_19 rfl ?_
  refine st_irem dX7_cornerOf_20 (by omega) (by omega) ?_
  refine fAt_v (x' := 1) (Int.emod_eq_of_lt (by omega) (by omega)) ?_
  refine st_istore_n (ls' := [some (vr 22 0), some (vi (n : Int)), some (vi p), some (vi 1), none, none, none, none]) dX7_cornerOf_21 (by decide) rfl rfl ?_
  refine st_iconst dX7_cornerOf_22 (by decide) ?_
  refine st_istore (ls' := [some (vr 22 0), some (vi (n : Int)), some (vi p), some (vi 1), some (vi 0), none, none, none]) dX7_cornerOf_23 (by decide) rfl rfl ?_
  have hrg := fl_rg hn hnw hD1 hD2
  rw [← dt_congr hD1]
  exact corner_o hn (by omega) n 0 1 D (by omega) (by omega) (by omega) (dI_0 (fun i j hi hj => hrg i j hi (by omega))) hrg
