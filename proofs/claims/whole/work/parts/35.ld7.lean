/-! ===== next, count, images, sheets ===== -/
def uS (M M' : fM) : Prop := ∀ k a b, k ≠ 8 → k ≠ 10 → k ≠ 11 → k ≠ 12 → k ≠ 16 → k ≠ 17 → k ≠ 18 → ¬ ((k = 2 ∨ k = 3 ∨ k = 4) ∧ a = 18) → M' k a b = M k a b
theorem uS_r (M : fM) : uS M M := fun _ _ _ _ _ _ _ _ _ _ _ => rfl
theorem uS_t {M N L : fM} (h1 : uS M N) (h2 : uS N L) : uS M L := fun k a b q1 q2 q3 q4 q5 q6 q7 q8 => (h2 k a b q1 q2 q3 q4 q5 q6 q7 q8).trans (h1 k a b q1 q2 q3 q4 q5 q6 q7 q8)
theorem uS_g {M N : fM} (h : gS M N) : uS M N := fun k a b q1 q2 q3 q4 _ _ _ _ => h k a b q1 q2 q3 q4
theorem uS_x {M N : fM} (h : tS M N) : uS M N := fun k a b q1 q2 q3 q4 _ _ _ q8 => h k a b q1 q2 q3 q4 q8
theorem xOk_u {M N : fM} {w : Nat} {p : Int} (hx : xOk M w p) (h : uS M N) (hg : gI N) : xOk N w p := by
  obtain ⟨h1, h2, ⟨s1, s2, s3, s4, s5, s6⟩, h4⟩ := hx
  have e : ∀ k b, k = 1 ∨ k = 2 ∨ k = 3 ∨ k = 4 → N k 0 b = M k 0 b := fun k b hk => h k 0 b (by omega) (by omega) (by omega) (by omega) (by omega) (by omega) (by omega) (by omega)
  exact ⟨by rw [e 1 0 (by omega)]; exact h1, h2, ⟨by rw [e 2 0 (by omega)]; exact s1, s2, by rw [e 2 1 (by omega)]; exact s3, fun q hq => by rw [e 3 q (by omega)]; exact s4 q hq, fun q hq => by rw [e 4 q (by omega)]; exact s5 q hq, by rw [e 2 2 (by omega)]; exact s6⟩, hg⟩
/-! the numbers that go on -/
def sqN (p : Int) (L : Nat → Int) (n l : Nat) (a : Nat → Int) : Nat → Nat → Int
  | 0 => L
  | k + 1 => fun t => if t = n + k then (sm l (fun m => a m * sqN p L n l a k (n + k - 1 - m))) % p else sqN p L n l a k t
theorem sqN_rng {p : Int} {L : Nat → Int} {n l : Nat} {a : Nat → Int} (hp : 0 < p) (hL : ∀ q, q < n → 0 ≤ L q ∧ L q < p) : ∀ (k t : Nat), t < n + k → 0 ≤ sqN p L n l a k t ∧ sqN p L n l a k t < p
  | 0, t, h => hL t (by omega)
  | k + 1, t, h => by
    show 0 ≤ (if t = n + k then _ else _) ∧ (if t = n + k then _ else _) < p
    split
    · exact modb hp
    · exact sqN_rng hp hL k t (by omega)
theorem sm_b {f : Nat → Int} : ∀ {n : Nat}, (∀ i, i < n → 0 ≤ f i ∧ f i ≤ 9409) → 0 ≤ sm n f ∧ sm n f ≤ 9409 * (n : Int)
  | 0, _ => by unfold sm; omega
  | n + 1, h => by
    have ih := sm_b (n := n) (fun i hi => h i (by omega))
    have := h n (by omega)
    unfold sm
    omega
set_option maxHeartbeats 4000000 in
set_option maxRecDepth 100000 in
theorem next_i {g : fG} {M N0 : fM} {w l j : Nat} {p : Int} {a : Nat → Int} {x : Int} (hp : 2 ≤ p ∧ p ≤ 97) (hw : 1 ≤ w ∧ w ≤ 6) (hl : l ≤ 2 * w - 1) (hj : j ≤ 20) (ha : ∀ c, c < l → 0 ≤ a c ∧ a c < p) (hL : ∀ q, q < 2 * w - 1 → 0 ≤ M 3 0 q ∧ M 3 0 q < p) {Q : Option fV → fM → Prop} (h11 : ∀ c, c < l → N0 11 0 c = a c) (h16 : ∀ q, q < 2 * w - 1 + j → N0 16 0 q = sqN p (M 3 0) (2 * w - 1) l a j q) (h1p : N0 1 0 0 = p)
    (hk : fAt g Y_X6_next 51 [some (vr 0 0), some (vi x), some (vi (l : Int)), some (vi ((2 * w - 1 : Nat) : Int)), some (vi (((2 * w - 1 + j : Nat) : Int) + 1)), none, none] [] (fup N0 16 0 (2 * w - 1 + j) ((sm l (fun q => a q * sqN p (M 3 0) (2 * w - 1) l a j (2 * w - 1 + j - 1 - q))) % p)) Q) :
    ∀ (n m : Nat), m + n = l → fAt g Y_X6_next 65 [some (vr 0 0), some (vi x), some (vi (l : Int)), some (vi (((2 * w - 1) : Nat) : Int)), some (vi (((2 * w - 1 + j) : Nat) : Int)), some (vi (sm m (fun q => a q * sqN p (M 3 0) (2 * w - 1) l a j (2 * w - 1 + j - 1 - q)))), some (vi ((m : Int) + 1))] [] N0 Q := by
  intro n
  induction n with
  | zero =>
    intro m hn
    have e : m = l := by omega
    subst e
    refine st_iload dX6_next_65 rfl ?_
    refine st_iload_n dX6_next_67 rfl ?_
    refine st_icmp_gt 105 dX6_next_68 (by decide) (fun h68 => ?_) (fun h68 => ?_)
    · skip
      refine st_aload_n dX6_next_105 rfl ?_
      refine st_getr (i' := 0) dX6_next_106 fl_X6_51 rfl rfl rfl (fun _ => by decide) ?_
      refine st_iload dX6_next_109 rfl ?_
      refine st_iload dX6_next_111 rfl ?_
      refine st_aload_n dX6_next_113 rfl ?_
      refine st_getr (i' := 0) dX6_next_114 fl_X6_12 rfl rfl rfl (fun _ => by decide) ?_
      refine st_get dX6_next_117 fl_X6_72 rfl rfl rfl ?_
      refine fAt_v (x' := p) h1p ?_
      refine st_irem dX6_next_120 (by have hb1 := sm_b (f := fun q => a q * sqN p (M 3 0) (2 * w - 1) m a j (2 * w - 1 + j - 1 - q)) (n := m) (fun i hi => mulb (a := 97) (b := 97) (ha i (by omega)).1 (sqN_rng (by omega) hL j _ (by omega)).1 (by have := (ha i (by omega)).2; omega) (by have := (sqN_rng (l := m) (a := a) (p := p) (by omega) hL j (2 * w - 1 + j - 1 - i) (by omega)).2; omega)); exact hb1.1) (by omega) ?_
      refine st_iast (j := (2 * w - 1 + j)) dX6_next_121 rfl rfl rfl rfl (by omega) ?_
      refine st_iinc (ls' := [some (vr 0 0), some (vi x), some (vi (m : Int)), some (vi (((2 * w - 1) : Nat) : Int)), some (vi ((((2 * w - 1 + j) : Nat) : Int) + 1)), some (vi (sm m (fun q => a q * sqN p (M 3 0) (2 * w - 1) m a j (2 * w - 1 + j - 1 - q)))), some (vi ((m : Int) + 1))]) dX6_next_122 rfl (by omega) (by decide) rfl rfl ?_
      refine st_goto 51 dX6_next_125 (by decide) ?_
      refine fAt_del 5 rfl ?_
      refine fAt_del 6 rfl ?_
      exact hk
    · skip
      exact absurd h68 (by omega)
  | succ n ih =>
    intro m hn
    refine st_iload dX6_next_65 rfl ?_
    refine st_iload_n dX6_next_67 rfl ?_
    refine st_icmp_gt 105 dX6_next_68 (by decide) (fun h68 => ?_) (fun h68 => ?_)
    · skip
      exact absurd h68 (by omega)
    · skip
      have hb1 := sm_b (f := fun q => a q * sqN p (M 3 0) (2 * w - 1) l a j (2 * w - 1 + j - 1 - q)) (n := m) (fun i hi => mulb (a := 97) (b := 97) (ha i (by omega)).1 (sqN_rng (by omega) hL j _ (by omega)).1 (by have := (ha i (by omega)).2; omega) (by have := (sqN_rng (l := l) (a := a) (p := p) (by omega) hL j (2 * w - 1 + j - 1 - i) (by omega)).2; omega))
      have hb2 := mulb (x := a m) (y := sqN p (M 3 0) (2 * w - 1) l a j (2 * w - 1 + j - 1 - m)) (a := 97) (b := 97) (ha m (by omega)).1 (sqN_rng (by omega) hL j _ (by omega)).1 (by have := (ha m (by omega)).2; omega) (by have := (sqN_rng (l := l) (a := a) (p := p) (by omega) hL j (2 * w - 1 + j - 1 - m) (by omega)).2; omega)
      refine st_iload dX6_next_71 rfl ?_
      refine st_aload_n dX6_next_73 rfl ?_
      refine st_getr (i' := 0) dX6_next_74 fl_X6_33 rfl rfl rfl (fun _ => by decide) ?_
      refine st_getr (i' := 0) dX6_next_77 fl_X6_179 rfl rfl rfl (fun _ => by decide) ?_
      refine st_iload dX6_next_80 rfl ?_
      refine st_iconst dX6_next_82 (by decide) ?_
      refine st_isub dX6_next_83 (by omega) ?_
      refine st_iald (j := m) dX6_next_84 rfl rfl rfl (by omega) (by omega) ?_
      refine fAt_v (x' := a m) (h11 m (by omega)) ?_
      refine st_aload_n dX6_next_85 rfl ?_
      refine st_getr (i' := 0) dX6_next_86 fl_X6_51 rfl rfl rfl (fun _ => by decide) ?_
      refine st_iload dX6_next_89 rfl ?_
      refine st_iload dX6_next_91 rfl ?_
      refine st_isub dX6_next_93 (by omega) ?_
      refine st_iald (j := (2 * w - 1 + j - 1 - m)) dX6_next_94 rfl rfl rfl (by omega) (by omega) ?_
      refine fAt_v (x' := sqN p (M 3 0) (2 * w - 1) l a j (2 * w - 1 + j - 1 - m)) (h16 _ (by omega)) ?_
      refine st_imul dX6_next_95 (by omega) ?_
      refine st_iadd dX6_next_96 (by omega) ?_
      refine st_istore (ls' := [some (vr 0 0), some (vi x), some (vi (l : Int)), some (vi (((2 * w - 1) : Nat) : Int)), some (vi (((2 * w - 1 + j) : Nat) : Int)), some (vi ((sm m (fun q => a q * sqN p (M 3 0) (2 * w - 1) l a j (2 * w - 1 + j - 1 - q))) + ((a m) * (sqN p (M 3 0) (2 * w - 1) l a j (2 * w - 1 + j - 1 - m))))), some (vi ((m : Int) + 1))]) dX6_next_97 (by decide) rfl rfl ?_
      refine st_iinc (ls' := [some (vr 0 0), some (vi x), some (vi (l : Int)), some (vi (((2 * w - 1) : Nat) : Int)), some (vi (((2 * w - 1 + j) : Nat) : Int)), some (vi ((sm m (fun q => a q * sqN p (M 3 0) (2 * w - 1) l a j (2 * w - 1 + j - 1 - q))) + ((a m) * (sqN p (M 3 0) (2 * w - 1) l a j (2 * w - 1 + j - 1 - m))))), some (vi (((m : Int) + 1) + 1))]) dX6_next_99 rfl (by omega) (by decide) rfl rfl ?_
      refine st_goto 65 dX6_next_102 (by decide) ?_
      exact ih (m + 1) (by omega)
set_option maxHeartbeats 4000000 in
set_option maxRecDepth 100000 in
theorem next_o {g : fG} {M : fM} {w l x : Nat} {p : Int} {a : Nat → Int} (hp : 2 ≤ p ∧ p ≤ 97) (hw : 1 ≤ w ∧ w ≤ 6) (hl : l ≤ 2 * w - 1) (hx20 : x ≤ 20) (ha : ∀ c, c < l → 0 ≤ a c ∧ a c < p) (hL : ∀ q, q < 2 * w - 1 → 0 ≤ M 3 0 q ∧ M 3 0 q < p) :
    ∀ (n j : Nat) (N0 : fM), j + n = x + 1 → (∀ c, c < l → N0 11 0 c = a c) → (∀ q, q < 2 * w - 1 + j → N0 16 0 q = sqN p (M 3 0) (2 * w - 1) l a j q) → N0 1 0 0 = p → uS M N0 → gI N0 → fAt g Y_X6_next 51 [some (vr 0 0), some (vi (x : Int)), some (vi (l : Int)), some (vi (((2 * w - 1) : Nat) : Int)), some (vi (((2 * w - 1 + j) : Nat) : Int)), none, none] [] N0 (fI (fun z M' => z = sqN p (M 3 0) (2 * w - 1) l a (x + 1) (2 * w - 1 + x) ∧ uS M M' ∧ gI M')) := by
  intro n
  induction n with
  | zero =>
    intro j N0 hn h11 h16 h1p hS hG
    refine st_iload dX6_next_51 rfl ?_
    refine st_iload_n dX6_next_53 rfl ?_
    refine st_iload_n dX6_next_54 rfl ?_
    refine st_iadd dX6_next_55 (by omega) ?_
    refine st_icmp_gt 128 dX6_next_56 (by decide) (fun h56 => ?_) (fun h56 => ?_)
    · skip
      refine st_aload_n dX6_next_128 rfl ?_
      refine st_getr (i' := 0) dX6_next_129 fl_X6_51 rfl rfl rfl (fun _ => by decide) ?_
      refine st_iload_n dX6_next_132 rfl ?_
      refine st_iload_n dX6_next_133 rfl ?_
      refine st_iadd dX6_next_134 (by omega) ?_
      refine st_iald (j := (2 * w - 1 + x)) dX6_next_135 rfl rfl rfl (by omega) (by omega) ?_
      refine fAt_v (x' := sqN p (M 3 0) (2 * w - 1) l a (x + 1) (2 * w - 1 + x)) (by rw [show x + 1 = j by omega]; exact h16 _ (by omega)) ?_
      refine st_ireturn dX6_next_136 rfl ⟨_, rfl, ⟨rfl, hS, hG⟩⟩
    · skip
      exact absurd h56 (by omega)
  | succ n ih =>
    intro j N0 hn h11 h16 h1p hS hG
    refine st_iload dX6_next_51 rfl ?_
    refine st_iload_n dX6_next_53 rfl ?_
    refine st_iload_n dX6_next_54 rfl ?_
    refine st_iadd dX6_next_55 (by omega) ?_
    refine st_icmp_gt 128 dX6_next_56 (by decide) (fun h56 => ?_) (fun h56 => ?_)
    · skip
      exact absurd h56 (by omega)
    · skip
      refine st_iconst dX6_next_59 (by decide) ?_
      refine st_istore (ls' := [some (vr 0 0), some (vi (x : Int)), some (vi (l : Int)), some (vi (((2 * w - 1) : Nat) : Int)), some (vi (((2 * w - 1 + j) : Nat) : Int)), some (vi 0), none]) dX6_next_60 (by decide) rfl rfl ?_
      refine st_iconst dX6_next_62 (by decide) ?_
      refine st_istore (ls' := [some (vr 0 0), some (vi (x : Int)), some (vi (l : Int)), some (vi (((2 * w - 1) : Nat) : Int)), some (vi (((2 * w - 1 + j) : Nat) : Int)), some (vi 0), some (vi 1)]) dX6_next_63 (by decide) rfl rfl ?_
      refine next_i hp hw hl (by omega) ha hL h11 h16 h1p ?_ l 0 (by omega)
      refine ih (j + 1) _ (by omega) (fun c hc => by rw [fup_ne (by omega)]; exact h11 c hc) (fun q hq => ?_) (by rw [fup_ne (by omega)]; exact h1p) (fun k a b q1 q2 q3 q4 q5 q6 q7 q8 => by rw [fup_ne (by omega)]; exact hS k a b q1 q2 q3 q4 q5 q6 q7 q8) ⟨hG.choose, by obtain ⟨g1, g2, g3⟩ := hG.choose_spec; exact ⟨g1, g2, fun a a1 a2 => g3 a a1 a2⟩⟩
      show _ = (if q = 2 * w - 1 + j then _ else _)
      by_cases e : q = 2 * w - 1 + j
      · rw [if_pos e, e, fup_eq]
      · rw [if_neg e, fup_ne (by omega)]; exact h16 q (by omega)
set_option maxHeartbeats 4000000 in
set_option maxRecDepth 100000 in
theorem c_next {g : fG} {M : fM} {w : Nat} {p : Int} (hx : xOk M w p) {x : Int} :
    fCi g Y_X6_next [vr 0 0, vi x] M (fun z M' => ((¬ (0 ≤ x ∧ x ≤ 20) ∧ z = -1) ∨ ((0 ≤ x ∧ x ≤ 20) ∧ ∃ l a, LawS p (M 3 0) (2 * w - 1) l a ∧ z = sqN p (M 3 0) (2 * w - 1) l a (x.toNat + 1) (2 * w - 1 + x.toNat))) ∧ uS M M' ∧ gI M') := by
  have hw1 := hx.2.2.1.2.1
  have hp2 := hx.2.1.1
  refine fCi_of _ [some (vr 0 0), some (vi x), none, none, none, none, none] (by decide) (Nat.le_of_ble_eq_true rfl) rfl (fun h => h) ?_
  refine st_iload_n dX6_next_0 rfl ?_
  refine st_if_lt 10 dX6_next_1 (by decide) (fun h1 => ?_) (fun h1 => ?_)
  · skip
    refine st_iconst dX6_next_10 (by decide) ?_
    refine st_ireturn dX6_next_11 rfl ⟨_, rfl, ⟨Or.inl ⟨by omega, rfl⟩, uS_r _, hx.2.2.2⟩⟩
  · skip
    refine st_iload_n dX6_next_4 rfl ?_
    refine st_bipush dX6_next_5 (by decide) ?_
    refine st_icmp_le 12 dX6_next_7 (by decide) (fun h7 => ?_) (fun h7 => ?_)
    · skip
      refine st_aload_n dX6_next_12 rfl ?_
      refine st_callVi [] [] dX6_next_13 vl_X6_138 rfl rfl rfl rfl (Nat.le_of_ble_eq_true rfl) (by decide) (c_findLaw hx) (fun z Ma qa => ?_)
      obtain ⟨l, rfl, hL, hS, hG⟩ := qa
      have hl := hL.1
      have hx2 := xOk_S hx hS hG
      refine st_istore_n (ls' := [some (vr 0 0), some (vi x), some (vi (l : Int)), none, none, none, none]) dX6_next_16 (by decide) rfl rfl ?_
      refine st_aload_n dX6_next_17 rfl ?_
      refine st_getr (i' := 0) dX6_next_18 fl_X6_12 rfl rfl rfl (fun _ => by decide) ?_
      refine st_getr (i' := 0) dX6_next_21 fl_X6_76 rfl rfl rfl (fun _ => by decide) ?_
      refine st_callVi [] [] dX6_next_24 vl_X6_197 rfl rfl rfl rfl (Nat.le_of_ble_eq_true rfl) (by decide) (c_rowLength hx2.2.2.1.1 hx2.2.2.1.2.1) (fun z Ml ql => ?_)
      obtain ⟨rfl, rfl⟩ := ql
      refine st_istore_n (ls' := [some (vr 0 0), some (vi x), some (vi (l : Int)), some (vi (((2 * w - 1) : Nat) : Int)), none, none, none]) dX6_next_27 (by decide) rfl rfl ?_
      refine st_aload_n dX6_next_28 rfl ?_
      refine st_getr (i' := 0) dX6_next_29 fl_X6_12 rfl rfl rfl (fun _ => by decide) ?_
      refine st_getr (i' := 0) dX6_next_32 fl_X6_76 rfl rfl rfl (fun _ => by decide) ?_
      refine st_getr (i' := 0) dX6_next_35 fl_X6_112 rfl rfl rfl (fun _ => by decide) ?_
      refine st_iconst dX6_next_38 (by decide) ?_
      refine st_aload_n dX6_next_39 rfl ?_
      refine st_getr (i' := 0) dX6_next_40 fl_X6_51 rfl rfl rfl (fun _ => by decide) ?_
      refine st_iconst dX6_next_43 (by decide) ?_
      refine st_iload_n dX6_next_44 rfl ?_
      refine st_copyi (a := 0) (b := 0) (n := (2 * w - 1)) dX6_next_45 lb_copy_X6 lb_copy_n lb_copy_s lb_sys rfl rfl rfl rfl rfl rfl rfl (by omega) (by omega) (by omega) (by decide) (Nat.le_of_ble_eq_true rfl) ?_
      refine st_iload_n dX6_next_48 rfl ?_
      refine st_istore (ls' := [some (vr 0 0), some (vi x), some (vi (l : Int)), some (vi (((2 * w - 1) : Nat) : Int)), some (vi (((2 * w - 1) : Nat) : Int)), none, none]) dX6_next_49 (by decide) rfl rfl ?_
      refine fAt_ls (ls' := [some (vr 0 0), some (vi ((x.toNat : Nat) : Int)), some (vi (l : Int)), some (vi ((2 * w - 1 : Nat) : Int)), some (vi ((2 * w - 1 + 0 : Nat) : Int)), none, none]) (by rw [show ((x.toNat : Nat) : Int) = x by omega]; rfl) ?_
      refine fAt_q (fun r M' h => ?_) (next_o (M := M) (x := x.toNat) (l := l) (a := Ml 11 0) (p := p) hx.2.1.1 hw1 hl (by omega) hL.2.2.1 hx.2.2.1.2.2.2.1 (x.toNat + 1) 0 _ (by omega) (fun c hc => rfl) (fun q hq => ?_) hx2.1 (fun k a b q1 q2 q3 q4 q5 q6 q7 q8 => ?_) ⟨hG.choose, by obtain ⟨g1, g2, g3⟩ := hG.choose_spec; exact ⟨g1, g2, fun a a1 a2 => g3 a a1 a2⟩⟩)
      · obtain ⟨z, e, h1, h2⟩ := h
        exact ⟨z, e, Or.inr ⟨by omega, l, _, hL, h1⟩, h2⟩
      · show fcp Ml 3 0 0 16 0 0 (2 * w - 1) 16 0 q = M 3 0 q
        unfold fcp
        rw [if_pos ⟨rfl, rfl, by omega, by omega⟩, hS 3 0 _ (by decide) (by decide) (by decide) (by decide)]
        congr 1
        omega
      · unfold fcp
        rw [if_neg (by omega)]
        exact hS k a b q1 q2 q3 q4
    · skip
      refine st_iconst dX6_next_10 (by decide) ?_
      refine st_ireturn dX6_next_11 rfl ⟨_, rfl, ⟨Or.inl ⟨by omega, rfl⟩, uS_r _, hx.2.2.2⟩⟩
/-- what count answers -/
def CtS (p : Int) (w : Nat) (kd : Int) (kn : Int) (L : Nat → Int) (x z : Int) : Prop :=
  (x = 0 ∧ z = (w : Int)) ∨ (x = 1 ∧ z = kd) ∨ (x = 2 ∧ z = p) ∨ (x = 3 ∧ ∃ k a, z = ((k : Nat) : Int) ∧ LSpec p w w (aug (ent p w kd L) w (fun _ => 0)) True k a) ∨ (x = 4 ∧ z = sst (fun k => dt k (ent p w kd L) % p) w) ∨ (x = 5 ∧ z = dt w (ent p w kd L) % p) ∨ (x = 6 ∧ ∃ l a, z = ((l : Nat) : Int) ∧ LawS p L (2 * w - 1) l a) ∨ (x = 7 ∧ z = kn) ∨ ((x < 0 ∨ 7 < x) ∧ z = -1)
set_option maxHeartbeats 4000000 in
set_option maxRecDepth 100000 in
theorem c_count {g : fG} {M : fM} {w : Nat} {p : Int} (hx : xOk M w p) {x : Int} :
    fCi g Y_X6_count [vr 0 0, vi x] M (fun z M' => CtS p w (M 2 0 1) (M 1 0 1) (M 3 0) x z ∧ gS M M' ∧ gI M') := by
  have hw1 := hx.2.2.1.2.1
  have hp2 := hx.2.1.1
  refine fCi_of _ [some (vr 0 0), some (vi x)] (by decide) (Nat.le_of_ble_eq_true rfl) rfl (fun h => h) ?_
  refine st_iload_n dX6_count_0 rfl ?_
  rcases (show x = 0 ∨ x = 1 ∨ x = 2 ∨ x = 3 ∨ x = 4 ∨ x = 5 ∨ x = 6 ∨ x = 7 ∨ (x < 0 ∨ 7 < x) by omega) with rfl | rfl | rfl | rfl | rfl | rfl | rfl | rfl | hout
  · skip
    refine st_tableIn 48 dX6_count_1 (by decide) (by decide) rfl (by decide) ?_
    refine st_aload_n dX6_count_48 rfl ?_
    refine st_getr (i' := 0) dX6_count_49 fl_X6_12 rfl rfl rfl (fun _ => by decide) ?_
    refine st_getr (i' := 0) dX6_count_52 fl_X6_76 rfl rfl rfl (fun _ => by decide) ?_
    refine st_get dX6_count_55 fl_X6_106 rfl rfl rfl ?_
    refine fAt_v (x' := (w : Int)) hx.2.2.1.1 ?_
    refine st_ireturn dX6_count_58 rfl ⟨_, rfl, ⟨Or.inl ⟨rfl, rfl⟩, gS_r _, hx.2.2.2⟩⟩
  · skip
    refine st_tableIn 59 dX6_count_1 (by decide) (by decide) rfl (by decide) ?_
    refine st_aload_n dX6_count_59 rfl ?_
    refine st_getr (i' := 0) dX6_count_60 fl_X6_12 rfl rfl rfl (fun _ => by decide) ?_
    refine st_getr (i' := 0) dX6_count_63 fl_X6_76 rfl rfl rfl (fun _ => by decide) ?_
    refine st_get dX6_count_66 fl_X6_121 rfl rfl rfl ?_
    refine st_ireturn dX6_count_69 rfl ⟨_, rfl, ⟨Or.inr (Or.inl ⟨rfl, rfl⟩), gS_r _, hx.2.2.2⟩⟩
  · skip
    refine st_tableIn 70 dX6_count_1 (by decide) (by decide) rfl (by decide) ?_
    refine st_aload_n dX6_count_70 rfl ?_
    refine st_getr (i' := 0) dX6_count_71 fl_X6_12 rfl rfl rfl (fun _ => by decide) ?_
    refine st_get dX6_count_74 fl_X6_72 rfl rfl rfl ?_
    refine fAt_v (x' := p) hx.1 ?_
    refine st_ireturn dX6_count_77 rfl ⟨_, rfl, ⟨Or.inr (Or.inr (Or.inl ⟨rfl, rfl⟩)), gS_r _, hx.2.2.2⟩⟩
  · skip
    refine st_tableIn 78 dX6_count_1 (by decide) (by decide) rfl (by decide) ?_
    refine st_aload_n dX6_count_78 rfl ?_
    refine st_callVi [] [] dX6_count_79 vl_X6_128 rfl rfl rfl rfl (Nat.le_of_ble_eq_true rfl) (by decide) (c_rankOfMatrix hx) (fun z Ma qa => ?_)
    obtain ⟨⟨kk, a, rfl, hL⟩, hS, hG⟩ := qa
    refine st_ireturn dX6_count_82 rfl ⟨_, rfl, ⟨Or.inr (Or.inr (Or.inr (Or.inl ⟨rfl, kk, a, rfl, hL⟩))), hS, hG⟩⟩
  · skip
    refine st_tableIn 83 dX6_count_1 (by decide) (by decide) rfl (by decide) ?_
    refine st_aload_n dX6_count_83 rfl ?_
    refine st_callVi [] [] dX6_count_84 vl_X6_132 rfl rfl rfl rfl (Nat.le_of_ble_eq_true rfl) (by decide) (c_singularCorners hx) (fun z Ma qa => ?_)
    obtain ⟨rfl, hS, hG⟩ := qa
    refine st_ireturn dX6_count_87 rfl ⟨_, rfl, ⟨Or.inr (Or.inr (Or.inr (Or.inr (Or.inl ⟨rfl, rfl⟩)))), hS, hG⟩⟩
  · skip
    refine st_tableIn 88 dX6_count_1 (by decide) (by decide) rfl (by decide) ?_
    refine st_aload_n dX6_count_88 rfl ?_
    refine st_callVi [] [] dX6_count_89 vl_X6_135 rfl rfl rfl rfl (Nat.le_of_ble_eq_true rfl) (by decide) (c_wholeCorner hx) (fun z Ma qa => ?_)
    obtain ⟨rfl, hS, hG⟩ := qa
    refine st_ireturn dX6_count_92 rfl ⟨_, rfl, ⟨Or.inr (Or.inr (Or.inr (Or.inr (Or.inr (Or.inl ⟨rfl, rfl⟩))))), hS, hG⟩⟩
  · skip
    refine st_tableIn 93 dX6_count_1 (by decide) (by decide) rfl (by decide) ?_
    refine st_aload_n dX6_count_93 rfl ?_
    refine st_callVi [] [] dX6_count_94 vl_X6_138 rfl rfl rfl rfl (Nat.le_of_ble_eq_true rfl) (by decide) (c_findLaw hx) (fun z Ma qa => ?_)
    obtain ⟨l, rfl, hL, hS, hG⟩ := qa
    refine st_ireturn dX6_count_97 rfl ⟨_, rfl, ⟨Or.inr (Or.inr (Or.inr (Or.inr (Or.inr (Or.inr (Or.inl ⟨rfl, l, _, rfl, hL⟩)))))), hS, hG⟩⟩
  · skip
    refine st_tableIn 98 dX6_count_1 (by decide) (by decide) rfl (by decide) ?_
    refine st_aload_n dX6_count_98 rfl ?_
    refine st_getr (i' := 0) dX6_count_99 fl_X6_12 rfl rfl rfl (fun _ => by decide) ?_
    refine st_get dX6_count_102 fl_X6_141 rfl rfl rfl ?_
    refine st_ireturn dX6_count_105 rfl ⟨_, rfl, ⟨Or.inr (Or.inr (Or.inr (Or.inr (Or.inr (Or.inr (Or.inr (Or.inl ⟨rfl, rfl⟩))))))), gS_r _, hx.2.2.2⟩⟩
  · skip
    refine st_tableOut 106 dX6_count_1 hout (by decide) ?_
    refine st_iconst dX6_count_106 (by decide) ?_
    refine st_ireturn dX6_count_107 rfl ⟨_, rfl, ⟨Or.inr (Or.inr (Or.inr (Or.inr (Or.inr (Or.inr (Or.inr (Or.inr (⟨hout, rfl⟩)))))))), gS_r _, hx.2.2.2⟩⟩
set_option maxHeartbeats 4000000 in
set_option maxRecDepth 100000 in
theorem c_image {g : fG} {M : fM}  :
    fCi g Y_X6_image [vr 0 0] M (fun z M' => z = 1 ∧ M' = fup (bkT M 1 0 9) 0 0 2 1) := by
  refine fCi_of _ [some (vr 0 0)] (by decide) (Nat.le_of_ble_eq_true rfl) rfl (fun h => h) ?_
  refine st_aload_n dX6_image_0 rfl ?_
  refine st_getr (i' := 1) dX6_image_1 fl_X6_16 rfl rfl rfl (fun _ => by decide) ?_
  refine st_aload_n dX6_image_4 rfl ?_
  refine st_getr (i' := 0) dX6_image_5 fl_X6_12 rfl rfl rfl (fun _ => by decide) ?_
  refine st_callVv [vr 1 0] [] dX6_image_8 vl_X6_233 rfl rfl rfl rfl (Nat.le_of_ble_eq_true rfl) (by decide) (c_Book_takeFrom_1) (fun Ma qa => ?_)
  subst qa
  refine st_aload_n dX6_image_11 rfl ?_
  refine st_iconst dX6_image_12 (by decide) ?_
  refine st_put dX6_image_13 fl_X6_19 fp_X6_2.1 (Or.inr (Or.inr rfl)) rfl rfl rfl ?_
  refine st_iconst dX6_image_16 (by decide) ?_
  refine st_ireturn dX6_image_17 rfl ⟨_, rfl, ⟨rfl, rfl⟩⟩
set_option maxHeartbeats 4000000 in
set_option maxRecDepth 100000 in
theorem c_restore {g : fG} {M : fM}  :
    fCi g Y_X6_restore [vr 0 0] M (fun z M' => (M 0 0 2 = 0 ∧ z = -4 ∧ M' = M) ∨ (M 0 0 2 ≠ 0 ∧ z = 1 ∧ M' = bkT M 0 1 9)) := by
  refine fCi_of _ [some (vr 0 0)] (by decide) (Nat.le_of_ble_eq_true rfl) rfl (fun h => h) ?_
  refine st_aload_n dX6_restore_0 rfl ?_
  refine st_get dX6_restore_1 fl_X6_19 rfl rfl rfl ?_
  refine st_if_ne 10 dX6_restore_4 (by decide) (fun h4 => ?_) (fun h4 => ?_)
  · skip
    refine st_aload_n dX6_restore_10 rfl ?_
    refine st_getr (i' := 0) dX6_restore_11 fl_X6_12 rfl rfl rfl (fun _ => by decide) ?_
    refine st_aload_n dX6_restore_14 rfl ?_
    refine st_getr (i' := 1) dX6_restore_15 fl_X6_16 rfl rfl rfl (fun _ => by decide) ?_
    refine st_callVv [vr 1 1] [] dX6_restore_18 vl_X6_233 rfl rfl rfl rfl (Nat.le_of_ble_eq_true rfl) (by decide) (c_Book_takeFrom_0) (fun Ma qa => ?_)
    subst qa
    refine st_iconst dX6_restore_21 (by decide) ?_
    refine st_ireturn dX6_restore_22 rfl ⟨_, rfl, Or.inr ⟨h4, rfl, rfl⟩⟩
  · skip
    refine st_bipush dX6_restore_7 (by decide) ?_
    refine st_ireturn dX6_restore_9 rfl ⟨_, rfl, Or.inl ⟨h4, rfl, rfl⟩⟩
set_option maxHeartbeats 4000000 in
set_option maxRecDepth 100000 in
theorem c_sheet {g : fG} {M : fM} {s la n : Int} :
    fCi g Y_X6_sheet [vr 0 0, vi s, vi la, vi n] M (fun z M' => (¬ ((0 ≤ s ∧ s < 4) ∧ (0 ≤ la ∧ la < 4) ∧ n ≤ 24) ∧ z = -1 ∧ M' = M) ∨ (((0 ≤ s ∧ s < 4) ∧ (0 ≤ la ∧ la < 4) ∧ n ≤ 24) ∧ ((n < 0 ∧ z = -14 ∧ M' = M) ∨ (0 ≤ n ∧ z = n ∧ M' = shB M s.toNat la n 24)))) := by
  refine fCi_of _ [some (vr 0 0), some (vi s), some (vi la), some (vi n)] (by decide) (Nat.le_of_ble_eq_true rfl) rfl (fun h => h) ?_
  refine st_iload_n dX6_sheet_0 rfl ?_
  refine st_callSi [vi s] [] dX6_sheet_1 sl_X6_260 rfl rfl (Nat.le_of_ble_eq_true rfl) (by decide) (c_isSheet) (fun za Ma qa => ?_)
  obtain ⟨qa, rfl⟩ := qa
  rcases qa with ⟨rfl, aa⟩ | ⟨rfl, aa⟩
  · skip
    refine st_if_eq 20 dX6_sheet_4 (by decide) (fun h4 => ?_) (fun h4 => ?_)
    · skip
      exact absurd h4 (by omega)
    · skip
      refine st_iload_n dX6_sheet_7 rfl ?_
      refine st_callSi [vi la] [] dX6_sheet_8 sl_X6_263 rfl rfl (Nat.le_of_ble_eq_true rfl) (by decide) (c_isLane) (fun zb Mb qb => ?_)
      obtain ⟨qb, rfl⟩ := qb
      rcases qb with ⟨rfl, ab⟩ | ⟨rfl, ab⟩
      · skip
        refine st_if_eq 20 dX6_sheet_11 (by decide) (fun h11 => ?_) (fun h11 => ?_)
        · skip
          exact absurd h11 (by omega)
        · skip
          refine st_iload_n dX6_sheet_14 rfl ?_
          refine st_bipush dX6_sheet_15 (by decide) ?_
          refine st_icmp_le 22 dX6_sheet_17 (by decide) (fun h17 => ?_) (fun h17 => ?_)
          · skip
            refine st_iload_n dX6_sheet_22 rfl ?_
            refine st_if_ge 29 dX6_sheet_23 (by decide) (fun h23 => ?_) (fun h23 => ?_)
            · skip
              refine st_aload_n dX6_sheet_29 rfl ?_
              refine st_getr (i' := 0) dX6_sheet_30 fl_X6_63 rfl rfl rfl (fun _ => by decide) ?_
              refine st_iload_n dX6_sheet_33 rfl ?_
              refine st_aald (j := s.toNat) (i' := s.toNat) dX6_sheet_34 rfl rfl rfl rfl ⟨_, rfl, rfl⟩ (by omega) (show s.toNat < 4 from by omega) rfl (fun _ => show s.toNat < 4 from by omega) ?_
              refine st_iload_n dX6_sheet_35 rfl ?_
              refine st_iload_n dX6_sheet_36 rfl ?_
              refine st_callVv [vi la, vi n] [] dX6_sheet_37 vl_X6_266 rfl rfl rfl rfl (Nat.le_of_ble_eq_true rfl) (by decide) (c_begin) (fun Mc qc => ?_)
              subst qc
              refine st_iload_n dX6_sheet_40 rfl ?_
              refine st_ireturn dX6_sheet_41 rfl ⟨_, rfl, Or.inr ⟨by omega, Or.inr ⟨by omega, rfl, rfl⟩⟩⟩
            · skip
              refine st_bipush dX6_sheet_26 (by decide) ?_
              refine st_ireturn dX6_sheet_28 rfl ⟨_, rfl, Or.inr ⟨by omega, Or.inl ⟨by omega, rfl, rfl⟩⟩⟩
          · skip
            refine st_iconst dX6_sheet_20 (by decide) ?_
            refine st_ireturn dX6_sheet_21 rfl ⟨_, rfl, Or.inl ⟨by omega, rfl, rfl⟩⟩
      · skip
        refine st_if_eq 20 dX6_sheet_11 (by decide) (fun h11 => ?_) (fun h11 => ?_)
        · skip
          refine st_iconst dX6_sheet_20 (by decide) ?_
          refine st_ireturn dX6_sheet_21 rfl ⟨_, rfl, Or.inl ⟨by omega, rfl, rfl⟩⟩
        · skip
          exact absurd h11 (by omega)
  · skip
    refine st_if_eq 20 dX6_sheet_4 (by decide) (fun h4 => ?_) (fun h4 => ?_)
    · skip
      refine st_iconst dX6_sheet_20 (by decide) ?_
      refine st_ireturn dX6_sheet_21 rfl ⟨_, rfl, Or.inl ⟨by omega, rfl, rfl⟩⟩
    · skip
      exact absurd h4 (by omega)
set_option maxHeartbeats 4000000 in
set_option maxRecDepth 100000 in
theorem c_drop {g : fG} {M : fM} {s : Int} :
    fCi g Y_X6_drop [vr 0 0, vi s] M (fun z M' => (¬ (0 ≤ s ∧ s < 4) ∧ z = -1 ∧ M' = M) ∨ ((0 ≤ s ∧ s < 4) ∧ ((M 20 s.toNat 0 = -1 ∧ z = -11 ∧ M' = M) ∨ (M 20 s.toNat 0 ≠ -1 ∧ z = M 20 s.toNat 1 ∧ M' = fup (fup M 20 s.toNat 0 (-1)) 20 s.toNat 1 0)))) := by
  refine fCi_of _ [some (vr 0 0), some (vi s), none] (by decide) (Nat.le_of_ble_eq_true rfl) rfl (fun h => h) ?_
  refine st_iload_n dX6_drop_0 rfl ?_
  refine st_callSi [vi s] [] dX6_drop_1 sl_X6_260 rfl rfl (Nat.le_of_ble_eq_true rfl) (by decide) (c_isSheet) (fun za Ma qa => ?_)
  obtain ⟨qa, rfl⟩ := qa
  rcases qa with ⟨rfl, aa⟩ | ⟨rfl, aa⟩
  · skip
    refine st_if_ne 9 dX6_drop_4 (by decide) (fun h4 => ?_) (fun h4 => ?_)
    · skip
      refine st_aload_n dX6_drop_9 rfl ?_
      refine st_getr (i' := 0) dX6_drop_10 fl_X6_63 rfl rfl rfl (fun _ => by decide) ?_
      refine st_iload_n dX6_drop_13 rfl ?_
      refine st_aald (j := s.toNat) (i' := s.toNat) dX6_drop_14 rfl rfl rfl rfl ⟨_, rfl, rfl⟩ (by omega) (show s.toNat < 4 from by omega) rfl (fun _ => show s.toNat < 4 from by omega) ?_
      refine st_callVi [] [] dX6_drop_15 vl_X6_270 rfl rfl rfl rfl (Nat.le_of_ble_eq_true rfl) (by decide) (c_isMissing) (fun zb Mb qb => ?_)
      obtain ⟨qb, rfl⟩ := qb
      rcases qb with ⟨rfl, ab⟩ | ⟨rfl, ab⟩
      · skip
        refine st_if_eq 24 dX6_drop_18 (by decide) (fun h18 => ?_) (fun h18 => ?_)
        · skip
          exact absurd h18 (by omega)
        · skip
          refine st_bipush dX6_drop_21 (by decide) ?_
          refine st_ireturn dX6_drop_23 rfl ⟨_, rfl, Or.inr ⟨aa, Or.inl ⟨ab, rfl, rfl⟩⟩⟩
      · skip
        refine st_if_eq 24 dX6_drop_18 (by decide) (fun h18 => ?_) (fun h18 => ?_)
        · skip
          refine st_aload_n dX6_drop_24 rfl ?_
          refine st_getr (i' := 0) dX6_drop_25 fl_X6_63 rfl rfl rfl (fun _ => by decide) ?_
          refine st_iload_n dX6_drop_28 rfl ?_
          refine st_aald (j := s.toNat) (i' := s.toNat) dX6_drop_29 rfl rfl rfl rfl ⟨_, rfl, rfl⟩ (by omega) (show s.toNat < 4 from by omega) rfl (fun _ => show s.toNat < 4 from by omega) ?_
          refine st_get dX6_drop_30 fl_X6_273 rfl rfl rfl ?_
          refine st_istore_n (ls' := [some (vr 0 0), some (vi s), some (vi (Mb 20 s.toNat 1))]) dX6_drop_33 (by decide) rfl rfl ?_
          refine st_aload_n dX6_drop_34 rfl ?_
          refine st_getr (i' := 0) dX6_drop_35 fl_X6_63 rfl rfl rfl (fun _ => by decide) ?_
          refine st_iload_n dX6_drop_38 rfl ?_
          refine st_aald (j := s.toNat) (i' := s.toNat) dX6_drop_39 rfl rfl rfl rfl ⟨_, rfl, rfl⟩ (by omega) (show s.toNat < 4 from by omega) rfl (fun _ => show s.toNat < 4 from by omega) ?_
          refine st_callVv [] [] dX6_drop_40 vl_X6_274 rfl rfl rfl rfl (Nat.le_of_ble_eq_true rfl) (by decide) (c_lose) (fun Mc qc => ?_)
          subst qc
          refine st_iload_n dX6_drop_43 rfl ?_
          refine st_ireturn dX6_drop_44 rfl ⟨_, rfl, Or.inr ⟨aa, Or.inr ⟨ab, rfl, rfl⟩⟩⟩
        · skip
          exact absurd h18 (by omega)
    · skip
      exact absurd h4 (by omega)
  · skip
    refine st_if_ne 9 dX6_drop_4 (by decide) (fun h4 => ?_) (fun h4 => ?_)
    · skip
      exact absurd h4 (by omega)
    · skip
      refine st_iconst dX6_drop_7 (by decide) ?_
      refine st_ireturn dX6_drop_8 rfl ⟨_, rfl, Or.inl ⟨by omega, rfl, rfl⟩⟩
theorem rfs_0 {M : fM} {s la i n : Int} (h : rfs M s la i n = 0) : (0 ≤ s ∧ s < 4) ∧ (0 ≤ la ∧ la < 4) ∧ M 20 s.toNat 0 = la ∧ M 20 s.toNat 0 ≠ -1 ∧ 0 ≤ i ∧ 0 ≤ n ∧ i + n ≤ M 20 s.toNat 1 := by
  unfold rfs at h
  split at h
  · omega
  · split at h
    · omega
    · split at h
      · omega
      · split at h
        · omega
        · omega
theorem sh24 {M : fM} {s : Int} {x : Int} (hs : shL M) (h0 : 0 ≤ s ∧ s < 4) (h : x ≤ M 20 s.toNat 1) : x ≤ 24 := by
  have := hs s.toNat (by omega)
  omega
set_option maxHeartbeats 4000000 in
set_option maxRecDepth 100000 in
theorem c_item {g : fG} {M : fM} {s la i v : Int} (hs : shL M) :
    fCi g Y_X6_item [vr 0 0, vi s, vi la, vi i, vl v] M (fun z M' => (rfs M s la i 1 ≠ 0 ∧ z = rfs M s la i 1 ∧ M' = M) ∨ (rfs M s la i 1 = 0 ∧ z = 1 ∧ M' = fup M 21 s.toNat i.toNat (lwb la v))) := by
  refine fCi_of _ [some (vr 0 0), some (vi s), some (vi la), some (vi i), some (vl v), none, none] (by decide) (Nat.le_of_ble_eq_true rfl) rfl (fun h => h) ?_
  refine st_aload_n dX6_item_0 rfl ?_
  refine st_iload_n dX6_item_1 rfl ?_
  refine st_iload_n dX6_item_2 rfl ?_
  refine st_iload_n dX6_item_3 rfl ?_
  refine st_iconst dX6_item_4 (by decide) ?_
  refine st_callVi [vi s, vi la, vi i, vi 1] [] dX6_item_5 vl_X6_236 rfl rfl rfl rfl (Nat.le_of_ble_eq_true rfl) (by decide) (c_refusalOf hs) (fun z Ma qa => ?_)
  obtain ⟨rfl, rfl⟩ := qa
  refine st_istore (ls' := [some (vr 0 0), some (vi s), some (vi la), some (vi i), some (vl v), none, some (vi (rfs Ma s la i 1))]) dX6_item_8 (by decide) rfl rfl ?_
  refine st_iload dX6_item_10 rfl ?_
  refine st_if_eq 18 dX6_item_12 (by decide) (fun h12 => ?_) (fun h12 => ?_)
  · skip
    have hr := rfs_0 h12
    have hr24 := sh24 hs hr.1 hr.2.2.2.2.2.2
    refine st_aload_n dX6_item_18 rfl ?_
    refine st_getr (i' := 0) dX6_item_19 fl_X6_63 rfl rfl rfl (fun _ => by decide) ?_
    refine st_iload_n dX6_item_22 rfl ?_
    refine st_aald (j := s.toNat) (i' := s.toNat) dX6_item_23 rfl rfl rfl rfl ⟨_, rfl, rfl⟩ (by omega) (show s.toNat < 4 from by omega) rfl (fun _ => show s.toNat < 4 from by omega) ?_
    refine st_getr (i' := s.toNat) dX6_item_24 fl_X6_246 rfl rfl rfl (fun h => h) ?_
    refine st_iload_n dX6_item_27 rfl ?_
    refine st_iload_n dX6_item_28 rfl ?_
    refine st_lload dX6_item_29 rfl ?_
    refine st_callSl [vi la, vl v] [vi i, vr 21 s.toNat] dX6_item_31 sl_X6_277 rfl rfl (Nat.le_of_ble_eq_true rfl) (by decide) (c_lowestBits (by omega)) (fun zl Ml ql => ?_)
    obtain ⟨rfl, rfl⟩ := ql
    refine st_last (j := i.toNat) dX6_item_34 rfl rfl rfl (by omega) (by omega) ?_
    refine st_iconst dX6_item_35 (by decide) ?_
    refine st_ireturn dX6_item_36 rfl ⟨_, rfl, Or.inr ⟨h12, rfl, rfl⟩⟩
  · skip
    refine st_iload dX6_item_15 rfl ?_
    refine st_ireturn dX6_item_17 rfl ⟨_, rfl, Or.inl ⟨h12, rfl, rfl⟩⟩
/-- what refuses a copy -/
def cpR (M : fM) (f i t j n : Int) : Int := if ¬ (0 ≤ f ∧ f < 4) ∨ ¬ (0 ≤ t ∧ t < 4) then -1 else if M 20 f.toNat 0 = -1 ∨ M 20 t.toNat 0 = -1 then -11 else if M 20 f.toNat 0 ≠ M 20 t.toNat 0 then -12 else if (0 ≤ i ∧ 0 ≤ n ∧ i + n ≤ M 20 f.toNat 1) ∧ (0 ≤ j ∧ 0 ≤ n ∧ j + n ≤ M 20 t.toNat 1) then 0 else -13
set_option maxHeartbeats 4000000 in
set_option maxRecDepth 100000 in
theorem c_copy {g : fG} {M : fM} {f i t j n : Int} (hs : shL M) :
    fCi g Y_X6_copy [vr 0 0, vi f, vi i, vi t, vi j, vi n] M (fun z M' => (cpR M f i t j n ≠ 0 ∧ z = cpR M f i t j n ∧ M' = M) ∨ (cpR M f i t j n = 0 ∧ ((0 ≤ f ∧ f < 4) ∧ (0 ≤ t ∧ t < 4)) ∧ ((0 ≤ i ∧ 0 ≤ n ∧ i + n ≤ M 20 f.toNat 1) ∧ (0 ≤ j ∧ j + n ≤ M 20 t.toNat 1)) ∧ z = n ∧ M' = fcp M 21 f.toNat i.toNat 21 t.toNat j.toNat n.toNat)) := by
  refine fCi_of _ [some (vr 0 0), some (vi f), some (vi i), some (vi t), some (vi j), some (vi n), none, none] (by decide) (Nat.le_of_ble_eq_true rfl) rfl (fun h => h) ?_
  refine st_iload_n dX6_copy_0 rfl ?_
  refine st_callSi [vi f] [] dX6_copy_1 sl_X6_260 rfl rfl (Nat.le_of_ble_eq_true rfl) (by decide) (c_isSheet) (fun za Ma qa => ?_)
  obtain ⟨qa, rfl⟩ := qa
  rcases qa with ⟨rfl, aa⟩ | ⟨rfl, aa⟩
  · skip
    refine st_if_eq 14 dX6_copy_4 (by decide) (fun h4 => ?_) (fun h4 => ?_)
    · skip
      exact absurd h4 (by omega)
    · skip
      refine st_iload_n dX6_copy_7 rfl ?_
      refine st_callSi [vi t] [] dX6_copy_8 sl_X6_260 rfl rfl (Nat.le_of_ble_eq_true rfl) (by decide) (c_isSheet) (fun zb Mb qb => ?_)
      obtain ⟨qb, rfl⟩ := qb
      rcases qb with ⟨rfl, ab⟩ | ⟨rfl, ab⟩
      · skip
        refine st_if_ne 16 dX6_copy_11 (by decide) (fun h11 => ?_) (fun h11 => ?_)
        · skip
          refine st_aload_n dX6_copy_16 rfl ?_
          refine st_getr (i' := 0) dX6_copy_17 fl_X6_63 rfl rfl rfl (fun _ => by decide) ?_
          refine st_iload_n dX6_copy_20 rfl ?_
          refine st_aald (j := f.toNat) (i' := f.toNat) dX6_copy_21 rfl rfl rfl rfl ⟨_, rfl, rfl⟩ (by omega) (show f.toNat < 4 from by omega) rfl (fun _ => show f.toNat < 4 from by omega) ?_
          refine st_astore (ls' := [some (vr 0 0), some (vi f), some (vi i), some (vi t), some (vi j), some (vi n), some (vr 20 f.toNat), none]) dX6_copy_22 (by decide) rfl rfl ?_
          refine st_aload_n dX6_copy_24 rfl ?_
          refine st_getr (i' := 0) dX6_copy_25 fl_X6_63 rfl rfl rfl (fun _ => by decide) ?_
          refine st_iload_n dX6_copy_28 rfl ?_
          refine st_aald (j := t.toNat) (i' := t.toNat) dX6_copy_29 rfl rfl rfl rfl ⟨_, rfl, rfl⟩ (by omega) (show t.toNat < 4 from by omega) rfl (fun _ => show t.toNat < 4 from by omega) ?_
          refine st_astore (ls' := [some (vr 0 0), some (vi f), some (vi i), some (vi t), some (vi j), some (vi n), some (vr 20 f.toNat), some (vr 20 t.toNat)]) dX6_copy_30 (by decide) rfl rfl ?_
          refine st_aload dX6_copy_32 rfl ?_
          refine st_callVi [] [] dX6_copy_34 vl_X6_270 rfl rfl rfl rfl (Nat.le_of_ble_eq_true rfl) (by decide) (c_isMissing) (fun zc Mc qc => ?_)
          obtain ⟨qc, rfl⟩ := qc
          rcases qc with ⟨rfl, ac⟩ | ⟨rfl, ac⟩
          · skip
            refine st_if_ne 48 dX6_copy_37 (by decide) (fun h37 => ?_) (fun h37 => ?_)
            · skip
              refine st_bipush dX6_copy_48 (by decide) ?_
              refine st_ireturn dX6_copy_50 rfl ⟨_, rfl, Or.inl ⟨?_, ?_, rfl⟩⟩
              · unfold cpR; rw [if_neg (by omega), if_pos (by omega)]; decide
              · unfold cpR; rw [if_neg (by omega), if_pos (by omega)]
            · skip
              exact absurd h37 (by omega)
          · skip
            refine st_if_ne 48 dX6_copy_37 (by decide) (fun h37 => ?_) (fun h37 => ?_)
            · skip
              exact absurd h37 (by omega)
            · skip
              refine st_aload dX6_copy_40 rfl ?_
              refine st_callVi [] [] dX6_copy_42 vl_X6_270 rfl rfl rfl rfl (Nat.le_of_ble_eq_true rfl) (by decide) (c_isMissing) (fun zd Md qd => ?_)
              obtain ⟨qd, rfl⟩ := qd
              rcases qd with ⟨rfl, ad⟩ | ⟨rfl, ad⟩
              · skip
                refine st_if_eq 51 dX6_copy_45 (by decide) (fun h45 => ?_) (fun h45 => ?_)
                · skip
                  exact absurd h45 (by omega)
                · skip
                  refine st_bipush dX6_copy_48 (by decide) ?_
                  refine st_ireturn dX6_copy_50 rfl ⟨_, rfl, Or.inl ⟨?_, ?_, rfl⟩⟩
                  · unfold cpR; rw [if_neg (by omega), if_pos (by omega)]; decide
                  · unfold cpR; rw [if_neg (by omega), if_pos (by omega)]
              · skip
                refine st_if_eq 51 dX6_copy_45 (by decide) (fun h45 => ?_) (fun h45 => ?_)
                · skip
                  refine st_aload dX6_copy_51 rfl ?_
                  refine st_get dX6_copy_53 fl_X6_281 rfl rfl rfl ?_
                  refine st_aload dX6_copy_56 rfl ?_
                  refine st_get dX6_copy_58 fl_X6_281 rfl rfl rfl ?_
                  refine st_icmp_eq 67 dX6_copy_61 (by decide) (fun h61 => ?_) (fun h61 => ?_)
                  · skip
                    refine st_aload dX6_copy_67 rfl ?_
                    refine st_iload_n dX6_copy_69 rfl ?_
                    refine st_iload dX6_copy_70 rfl ?_
                    refine st_callVi [vi i, vi n] [] dX6_copy_72 vl_X6_284 rfl rfl rfl rfl (Nat.le_of_ble_eq_true rfl) (by decide) (c_holds (hs _ (by omega))) (fun ze Me qe => ?_)
                    obtain ⟨qe, rfl⟩ := qe
                    rcases qe with ⟨rfl, ae⟩ | ⟨rfl, ae⟩
                    · skip
                      refine st_if_eq 90 dX6_copy_75 (by decide) (fun h75 => ?_) (fun h75 => ?_)
                      · skip
                        exact absurd h75 (by omega)
                      · skip
                        refine st_aload dX6_copy_78 rfl ?_
                        refine st_iload dX6_copy_80 rfl ?_
                        refine st_iload dX6_copy_82 rfl ?_
                        refine st_callVi [vi j, vi n] [] dX6_copy_84 vl_X6_284 rfl rfl rfl rfl (Nat.le_of_ble_eq_true rfl) (by decide) (c_holds (hs _ (by omega))) (fun zf Mf qf => ?_)
                        obtain ⟨qf, rfl⟩ := qf
                        rcases qf with ⟨rfl, af⟩ | ⟨rfl, af⟩
                        · skip
                          refine st_if_ne 93 dX6_copy_87 (by decide) (fun h87 => ?_) (fun h87 => ?_)
                          · skip
                            refine st_aload dX6_copy_93 rfl ?_
                            refine st_getr (i' := f.toNat) dX6_copy_95 fl_X6_246 rfl rfl rfl (fun h => h) ?_
                            refine st_iload_n dX6_copy_98 rfl ?_
                            refine st_aload dX6_copy_99 rfl ?_
                            refine st_getr (i' := t.toNat) dX6_copy_101 fl_X6_246 rfl rfl rfl (fun h => h) ?_
                            refine st_iload dX6_copy_104 rfl ?_
                            refine st_iload dX6_copy_106 rfl ?_
                            have h24a := sh24 hs aa ae.2.2
                            have h24b := sh24 hs ab af.2.2
                            refine st_copyl (a := i.toNat) (b := j.toNat) (n := n.toNat) dX6_copy_108 lb_copy_X6 lb_copy_n lb_copy_s lb_sys rfl rfl rfl rfl rfl rfl (by omega) (by omega) (by omega) (by omega) (by omega) (by decide) (Nat.le_of_ble_eq_true rfl) ?_
                            refine st_iload dX6_copy_111 rfl ?_
                            refine st_ireturn dX6_copy_113 rfl ⟨_, rfl, Or.inr ⟨?_, ⟨aa, ab⟩, by omega, rfl, rfl⟩⟩
                            unfold cpR; rw [if_neg (by omega), if_neg (by omega), if_neg (fun q => q h61), if_pos ⟨ae, af⟩]
                          · skip
                            exact absurd h87 (by omega)
                        · skip
                          refine st_if_ne 93 dX6_copy_87 (by decide) (fun h87 => ?_) (fun h87 => ?_)
                          · skip
                            exact absurd h87 (by omega)
                          · skip
                            refine st_bipush dX6_copy_90 (by decide) ?_
                            refine st_ireturn dX6_copy_92 rfl ⟨_, rfl, Or.inl ⟨?_, ?_, rfl⟩⟩
                            · unfold cpR; rw [if_neg (by omega), if_neg (by omega), if_neg (fun q => q h61), if_neg (by omega)]; decide
                            · unfold cpR; rw [if_neg (by omega), if_neg (by omega), if_neg (fun q => q h61), if_neg (by omega)]
                    · skip
                      refine st_if_eq 90 dX6_copy_75 (by decide) (fun h75 => ?_) (fun h75 => ?_)
                      · skip
                        refine st_bipush dX6_copy_90 (by decide) ?_
                        refine st_ireturn dX6_copy_92 rfl ⟨_, rfl, Or.inl ⟨?_, ?_, rfl⟩⟩
                        · unfold cpR; rw [if_neg (by omega), if_neg (by omega), if_neg (fun q => q h61), if_neg (by omega)]; decide
                        · unfold cpR; rw [if_neg (by omega), if_neg (by omega), if_neg (fun q => q h61), if_neg (by omega)]
                      · skip
                        exact absurd h75 (by omega)
                  · skip
                    refine st_bipush dX6_copy_64 (by decide) ?_
                    refine st_ireturn dX6_copy_66 rfl ⟨_, rfl, Or.inl ⟨?_, ?_, rfl⟩⟩
                    · unfold cpR; rw [if_neg (by omega), if_neg (by omega), if_pos h61]; decide
                    · unfold cpR; rw [if_neg (by omega), if_neg (by omega), if_pos h61]
                · skip
                  exact absurd h45 (by omega)
        · skip
          exact absurd h11 (by omega)
      · skip
        refine st_if_ne 16 dX6_copy_11 (by decide) (fun h11 => ?_) (fun h11 => ?_)
        · skip
          exact absurd h11 (by omega)
        · skip
          refine st_iconst dX6_copy_14 (by decide) ?_
          refine st_ireturn dX6_copy_15 rfl ⟨_, rfl, Or.inl ⟨?_, ?_, rfl⟩⟩
          · unfold cpR; rw [if_pos (by omega)]; decide
          · unfold cpR; rw [if_pos (by omega)]
  · skip
    refine st_if_eq 14 dX6_copy_4 (by decide) (fun h4 => ?_) (fun h4 => ?_)
    · skip
      refine st_iconst dX6_copy_14 (by decide) ?_
      refine st_ireturn dX6_copy_15 rfl ⟨_, rfl, Or.inl ⟨?_, ?_, rfl⟩⟩
      · unfold cpR; rw [if_pos (by omega)]; decide
      · unfold cpR; rw [if_pos (by omega)]
    · skip
      exact absurd h4 (by omega)
