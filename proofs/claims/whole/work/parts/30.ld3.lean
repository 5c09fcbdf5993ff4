/-! ===== the law; a trial of numbers; what comes of an X ===== -/
def lwA (L : Nat → Int) (l : Nat) : Nat → Nat → Int := fun r c => if c < l then L (r + l - 1 - c) else L (r + l)
set_option maxHeartbeats 4000000 in
set_option maxRecDepth 100000 in
theorem fitsLaw_i {g : fG} {M : fM} {w : Nat} {p : Int} (hx : xOk M w p) {l : Nat} (hl : l < 2 * w - 1) {f : Nat → Int} {C : Nat → Nat → Int} (hg1 : gOk p (wG M p f)) {r : Nat} {Q : Option fV → fM → Prop} (hr : r < 2 * w - 1 - l) (hk : fAt g Y_X6_fitsLaw 41 [some (vr 0 0), some (vi (l : Int)), some (vr 3 0), some (vi ((2 * w - 1 - l : Nat) : Int)), some (vi ((r : Int) + 1)), none] [] (wC (wG M p f) (fC C (lwA (M 3 0) l) (l + 1) (r + 1) 0)) Q) :
    ∀ (n m : Nat), m + n = l → fAt g Y_X6_fitsLaw 50 [some (vr 0 0), some (vi (l : Int)), some (vr 3 0), some (vi (((2 * w - 1 - l) : Nat) : Int)), some (vi (r : Int)), some (vi (m : Int))] [] (wC (wG M p f) (fC C (lwA (M 3 0) l) (l + 1) r m)) Q := by
  have hw1 := hx.2.2.1.2.1
  have hp2 := hx.2.1.1
  intro n
  induction n with
  | zero =>
    intro m hn
    have e : m = l := by omega
    subst e
    refine st_iload dX6_fitsLaw_50 rfl ?_
    refine st_iload_n dX6_fitsLaw_52 rfl ?_
    refine st_icmp_ge 86 dX6_fitsLaw_53 (by decide) (fun h53 => ?_) (fun h53 => ?_)
    · skip
      refine st_aload_n dX6_fitsLaw_86 rfl ?_
      refine st_getr (i' := 0) dX6_fitsLaw_87 fl_X6_33 rfl rfl rfl (fun _ => by decide) ?_
      refine st_getr (i' := 0) dX6_fitsLaw_90 fl_X6_186 rfl rfl rfl (fun _ => by decide) ?_
      refine st_iload dX6_fitsLaw_93 rfl ?_
      refine st_aald (j := r) (i' := r) dX6_fitsLaw_95 rfl rfl rfl rfl ⟨_, rfl, rfl⟩ rfl (show r < 11 from by omega) rfl (fun _ => show r < 11 from by omega) ?_
      refine st_iload_n dX6_fitsLaw_96 rfl ?_
      refine st_aload_n dX6_fitsLaw_97 rfl ?_
      refine st_iload dX6_fitsLaw_98 rfl ?_
      refine st_iload_n dX6_fitsLaw_100 rfl ?_
      refine st_iadd dX6_fitsLaw_101 (by omega) ?_
      refine st_iald (j := (r + m)) dX6_fitsLaw_102 rfl rfl rfl (by omega) (by omega) ?_
      refine fAt_v (x' := lwA (M 3 0) m r m) (by show M 3 0 (r + m) = _; unfold lwA; rw [if_neg (by omega)]) ?_
      refine st_iast (j := m) dX6_fitsLaw_103 rfl rfl rfl rfl (by omega) ?_
      refine fAt_m (wC_up _ _ _ _ _) ?_
      refine fAt_m (congrArg (wC (wG M p f)) (fC_s C (lwA (M 3 0) m) (m + 1) r m)) ?_
      refine fAt_m (congrArg (wC (wG M p f)) (fC_r C (lwA (M 3 0) m) (m + 1) r)) ?_
      refine st_iinc (ls' := [some (vr 0 0), some (vi (m : Int)), some (vr 3 0), some (vi (((2 * w - 1 - m) : Nat) : Int)), some (vi ((r : Int) + 1)), some (vi (m : Int))]) dX6_fitsLaw_104 rfl (by omega) (by decide) rfl rfl ?_
      refine st_goto 41 dX6_fitsLaw_107 (by decide) ?_
      refine fAt_del 5 rfl ?_
      exact hk
    · skip
      exact absurd h53 (by omega)
  | succ n ih =>
    intro m hn
    refine st_iload dX6_fitsLaw_50 rfl ?_
    refine st_iload_n dX6_fitsLaw_52 rfl ?_
    refine st_icmp_ge 86 dX6_fitsLaw_53 (by decide) (fun h53 => ?_) (fun h53 => ?_)
    · skip
      exact absurd h53 (by omega)
    · skip
      refine st_aload_n dX6_fitsLaw_56 rfl ?_
      refine st_getr (i' := 0) dX6_fitsLaw_57 fl_X6_33 rfl rfl rfl (fun _ => by decide) ?_
      refine st_getr (i' := 0) dX6_fitsLaw_60 fl_X6_186 rfl rfl rfl (fun _ => by decide) ?_
      refine st_iload dX6_fitsLaw_63 rfl ?_
      refine st_aald (j := r) (i' := r) dX6_fitsLaw_65 rfl rfl rfl rfl ⟨_, rfl, rfl⟩ rfl (show r < 11 from by omega) rfl (fun _ => show r < 11 from by omega) ?_
      refine st_iload dX6_fitsLaw_66 rfl ?_
      refine st_aload_n dX6_fitsLaw_68 rfl ?_
      refine st_iload dX6_fitsLaw_69 rfl ?_
      refine st_iload_n dX6_fitsLaw_71 rfl ?_
      refine st_iadd dX6_fitsLaw_72 (by omega) ?_
      refine st_iconst dX6_fitsLaw_73 (by decide) ?_
      refine st_isub dX6_fitsLaw_74 (by omega) ?_
      refine st_iload dX6_fitsLaw_75 rfl ?_
      refine st_isub dX6_fitsLaw_77 (by omega) ?_
      refine st_iald (j := (r + l - 1 - m)) dX6_fitsLaw_78 rfl rfl rfl (by omega) (by omega) ?_
      refine fAt_v (x' := lwA (M 3 0) l r m) (by show M 3 0 (r + l - 1 - m) = _; unfold lwA; rw [if_pos (by omega)]) ?_
      refine st_iast (j := m) dX6_fitsLaw_79 rfl rfl rfl rfl (by omega) ?_
      refine fAt_m (wC_up _ _ _ _ _) ?_
      refine fAt_m (congrArg (wC (wG M p f)) (fC_s C (lwA (M 3 0) l) (l + 1) r m)) ?_
      refine st_iinc (ls' := [some (vr 0 0), some (vi (l : Int)), some (vr 3 0), some (vi (((2 * w - 1 - l) : Nat) : Int)), some (vi (r : Int)), some (vi ((m : Int) + 1))]) dX6_fitsLaw_80 rfl (by omega) (by decide) rfl rfl ?_
      refine st_goto 50 dX6_fitsLaw_83 (by decide) ?_
      exact ih (m + 1) (by omega)
set_option maxHeartbeats 4000000 in
set_option maxRecDepth 100000 in
theorem fitsLaw_o {g : fG} {M : fM} {w : Nat} {p : Int} (hx : xOk M w p) {l : Nat} (hl : l < 2 * w - 1) {f : Nat → Int} {C : Nat → Nat → Int} (hg1 : gOk p (wG M p f)) :
    ∀ (n r : Nat), r + n = 2 * w - 1 - l → fAt g Y_X6_fitsLaw 41 [some (vr 0 0), some (vi (l : Int)), some (vr 3 0), some (vi (((2 * w - 1 - l) : Nat) : Int)), some (vi (r : Int)), none] [] (wC (wG M p f) (fC C (lwA (M 3 0) l) (l + 1) r 0)) (fI (fun z M' => ∃ a k, ((z = 1 ∧ LSpec p (2 * w - 1 - l) l (lwA (M 3 0) l) True k a) ∨ (z = 0 ∧ LSpec p (2 * w - 1 - l) l (lwA (M 3 0) l) False k a)) ∧ (∀ c, c < l → M' 11 0 c = a c) ∧ gS M M' ∧ gI M')) := by
  have hw1 := hx.2.2.1.2.1
  have hp2 := hx.2.1.1
  intro n
  induction n with
  | zero =>
    intro r hn
    have e : r = 2 * w - 1 - l := by omega
    subst e
    refine st_iload dX6_fitsLaw_41 rfl ?_
    refine st_iload_n dX6_fitsLaw_43 rfl ?_
    refine st_icmp_ge 110 dX6_fitsLaw_44 (by decide) (fun h44 => ?_) (fun h44 => ?_)
    · skip
      have hA : ∀ i j, i < 2 * w - 1 - l → j ≤ l → fC C (lwA (M 3 0) l) (l + 1) (2 * w - 1 - l) 0 i j = lwA (M 3 0) l i j := by
        intro i j hi hj
        unfold fC
        rw [if_pos (Or.inl ⟨hi, by omega⟩)]
      have hAr : ∀ i j, i < 2 * w - 1 - l → j < l + 1 → 0 ≤ fC C (lwA (M 3 0) l) (l + 1) (2 * w - 1 - l) 0 i j ∧ fC C (lwA (M 3 0) l) (l + 1) (2 * w - 1 - l) 0 i j < p := by
        intro i j hi hj
        rw [hA i j hi (by omega)]
        unfold lwA
        split
        · exact hx.2.2.1.2.2.2.1 _ (by omega)
        · exact hx.2.2.1.2.2.2.1 _ (by omega)
      refine fAt_m (wA_in _ _) ?_
      refine st_aload_n dX6_fitsLaw_110 rfl ?_
      refine st_getr (i' := 0) dX6_fitsLaw_111 fl_X6_33 rfl rfl rfl (fun _ => by decide) ?_
      refine st_iload_n dX6_fitsLaw_114 rfl ?_
      refine st_iload_n dX6_fitsLaw_115 rfl ?_
      refine st_callVi [vi (((2 * w - 1 - l) : Nat) : Int), vi (l : Int)] [] dX6_fitsLaw_116 vl_X6_190 rfl rfl rfl rfl (Nat.le_of_ble_eq_true rfl) (by decide) (c_solveLeast (p := p) (a := (wG M p f) 11 0) hg1 (by omega) (by omega) hAr) (fun z M3 q3 => ?_)
      obtain ⟨C3, a3, k3, rfl, q3⟩ := q3
      rcases q3 with ⟨rfl, hL⟩ | ⟨rfl, hL⟩
      · skip
        refine st_if_lt 126 dX6_fitsLaw_119 (by decide) (fun h119 => ?_) (fun h119 => ?_)
        · skip
          refine st_iconst dX6_fitsLaw_126 (by decide) ?_
          refine st_zreturn dX6_fitsLaw_127 rfl (by omega) ⟨_, rfl, ?_⟩
          first
          | exact ⟨a3, k3, Or.inr ⟨rfl, LSpec_congr hA hL⟩, fun c hc => wA_at _ _ _ _, gS_wa, gI_w hg1⟩
          | exact ⟨a3, k3, Or.inl ⟨rfl, LSpec_congr hA hL⟩, fun c hc => wA_at _ _ _ _, gS_wa, gI_w hg1⟩
        · skip
          exact absurd h119 (by omega)
      · skip
        refine st_if_lt 126 dX6_fitsLaw_119 (by decide) (fun h119 => ?_) (fun h119 => ?_)
        · skip
          exact absurd h119 (by omega)
        · skip
          refine st_iconst dX6_fitsLaw_122 (by decide) ?_
          refine st_goto 127 dX6_fitsLaw_123 (by decide) ?_
          refine st_zreturn dX6_fitsLaw_127 rfl (by omega) ⟨_, rfl, ?_⟩
          first
          | exact ⟨a3, k3, Or.inr ⟨rfl, LSpec_congr hA hL⟩, fun c hc => wA_at _ _ _ _, gS_wa, gI_w hg1⟩
          | exact ⟨a3, k3, Or.inl ⟨rfl, LSpec_congr hA hL⟩, fun c hc => wA_at _ _ _ _, gS_wa, gI_w hg1⟩
    · skip
      exact absurd h44 (by omega)
  | succ n ih =>
    intro r hn
    refine st_iload dX6_fitsLaw_41 rfl ?_
    refine st_iload_n dX6_fitsLaw_43 rfl ?_
    refine st_icmp_ge 110 dX6_fitsLaw_44 (by decide) (fun h44 => ?_) (fun h44 => ?_)
    · skip
      exact absurd h44 (by omega)
    · skip
      refine st_iconst dX6_fitsLaw_47 (by decide) ?_
      refine st_istore (ls' := [some (vr 0 0), some (vi (l : Int)), some (vr 3 0), some (vi (((2 * w - 1 - l) : Nat) : Int)), some (vi (r : Int)), some (vi 0)]) dX6_fitsLaw_48 (by decide) rfl rfl ?_
      exact fitsLaw_i hx hl hg1 (by omega) (ih (r + 1) (by omega)) l 0 (by omega)
set_option maxHeartbeats 4000000 in
set_option maxRecDepth 100000 in
theorem c_fitsLaw {g : fG} {M : fM} {w : Nat} {p : Int} (hx : xOk M w p) {l : Nat} (hl : l < 2 * w - 1) :
    fCi g Y_X6_fitsLaw [vr 0 0, vi (l : Int)] M (fun z M' => ∃ a k, ((z = 1 ∧ LSpec p (2 * w - 1 - l) l (lwA (M 3 0) l) True k a) ∨ (z = 0 ∧ LSpec p (2 * w - 1 - l) l (lwA (M 3 0) l) False k a)) ∧ (∀ c, c < l → M' 11 0 c = a c) ∧ gS M M' ∧ gI M') := by
  have hw1 := hx.2.2.1.2.1
  have hp2 := hx.2.1.1
  refine fCi_of _ [some (vr 0 0), some (vi (l : Int)), none, none, none, none] (by decide) (Nat.le_of_ble_eq_true rfl) rfl (fun h => h) ?_
  refine st_aload_n dX6_fitsLaw_0 rfl ?_
  refine st_getr (i' := 0) dX6_fitsLaw_1 fl_X6_12 rfl rfl rfl (fun _ => by decide) ?_
  refine st_getr (i' := 0) dX6_fitsLaw_4 fl_X6_76 rfl rfl rfl (fun _ => by decide) ?_
  refine st_getr (i' := 0) dX6_fitsLaw_7 fl_X6_112 rfl rfl rfl (fun _ => by decide) ?_
  refine st_astore_n (ls' := [some (vr 0 0), some (vi (l : Int)), some (vr 3 0), none, none, none]) dX6_fitsLaw_10 (by decide) rfl rfl ?_
  refine st_aload_n dX6_fitsLaw_11 rfl ?_
  refine st_getr (i' := 0) dX6_fitsLaw_12 fl_X6_12 rfl rfl rfl (fun _ => by decide) ?_
  refine st_getr (i' := 0) dX6_fitsLaw_15 fl_X6_76 rfl rfl rfl (fun _ => by decide) ?_
  refine st_callVi [] [] dX6_fitsLaw_18 vl_X6_197 rfl rfl rfl rfl (Nat.le_of_ble_eq_true rfl) (by decide) (c_rowLength hx.2.2.1.1 hx.2.2.1.2.1) (fun z M1 q => ?_)
  obtain ⟨rfl, rfl⟩ := q
  refine st_iload_n dX6_fitsLaw_21 rfl ?_
  refine st_isub dX6_fitsLaw_22 (by omega) ?_
  refine fAt_v (x' := ((2 * w - 1 - l : Nat) : Int)) (by omega) ?_
  refine st_istore_n (ls' := [some (vr 0 0), some (vi (l : Int)), some (vr 3 0), some (vi (((2 * w - 1 - l) : Nat) : Int)), none, none]) dX6_fitsLaw_23 (by decide) rfl rfl ?_
  refine st_aload_n dX6_fitsLaw_24 rfl ?_
  refine st_getr (i' := 0) dX6_fitsLaw_25 fl_X6_33 rfl rfl rfl (fun _ => by decide) ?_
  refine st_aload_n dX6_fitsLaw_28 rfl ?_
  refine st_getr (i' := 0) dX6_fitsLaw_29 fl_X6_12 rfl rfl rfl (fun _ => by decide) ?_
  refine st_get dX6_fitsLaw_32 fl_X6_72 rfl rfl rfl ?_
  refine fAt_v (x' := p) hx.1 ?_
  refine st_callVv [vi p] [] dX6_fitsLaw_35 vl_X6_297 rfl rfl rfl rfl (Nat.le_of_ble_eq_true rfl) (by decide) (c_usePrime hx.2.2.2.choose_spec hx.2.1) (fun M2 q2 => ?_)
  obtain ⟨f, rfl, hg1⟩ := q2
  refine st_iconst dX6_fitsLaw_38 (by decide) ?_
  refine st_istore (ls' := [some (vr 0 0), some (vi (l : Int)), some (vr 3 0), some (vi (((2 * w - 1 - l) : Nat) : Int)), some (vi 0), none]) dX6_fitsLaw_39 (by decide) rfl rfl ?_
  refine fAt_m (wC_self _).symm ?_
  refine fAt_m (congrArg (wC (wG M1 p f)) (fC_0 _ (lwA (M1 3 0) l) (l + 1)).symm) ?_
  exact fitsLaw_o hx hl hg1 (2 * w - 1 - l) 0 (by omega)
/-- the law of a line of n numbers: its length, its terms -/
def LawS (p : Int) (L : Nat → Int) (n l : Nat) (a : Nat → Int) : Prop := l ≤ n ∧ (∀ m, m < l → ¬ ∃ x, Ev 1 p (n - m) m (lwA L m) x) ∧ Least p (n - l) l (lwA L l) a
theorem LawS_one {p : Int} {L : Nat → Int} {n l l' : Nat} {a a' : Nat → Int} (h : LawS p L n l a) (h' : LawS p L n l' a') : l = l' ∧ ∀ c, c < l → a c = a' c := by
  have e : l = l' := by
    rcases Nat.lt_trichotomy l l' with q | q | q
    · exact absurd ⟨a, h.2.2.2.1⟩ (h'.2.1 l q)
    · exact q
    · exact absurd ⟨a', h'.2.2.2.1⟩ (h.2.1 l' q)
  subst e
  exact ⟨rfl, Least_one h.2.2 h'.2.2⟩
theorem Least_all {p : Int} {u : Nat} {C : Nat → Nat → Int} {a : Nat → Int} (hp : 0 < p) (ha : ∀ c, c < u → a c = 0) : Least p 0 u C a := by
  refine ⟨fun c hc => by rw [ha c hc]; omega, fun r hr => absurd hr (by omega), fun y y1 _ => ?_⟩
  by_cases hall : ∀ c, c < u → a c = y c
  · exact Or.inl hall
  · right
    have hex : ∃ c, c < u ∧ a c ≠ y c := Classical.byContradiction (fun hno => hall (fun c hc => Classical.byContradiction (fun hne => hno ⟨c, hc, hne⟩)))
    obtain ⟨c, ⟨hc, hne⟩, hmin⟩ := pk_least _ hex
    refine ⟨c, hc, fun j hj => Classical.byContradiction (fun h => hmin j hj ⟨by omega, h⟩), ?_⟩
    have := y1 c hc
    rw [ha c hc] at hne ⊢
    omega
theorem LawS_ans {p : Int} {L : Nat → Int} {n l : Nat} {a a' : Nat → Int} (e : ∀ c, c < l → a c = a' c) (h : LawS p L n l a) : LawS p L n l a' := by
  refine ⟨h.1, h.2.1, ?_⟩
  have q : LSpec p (n - l) l (lwA L l) True 0 a → Least p (n - l) l (lwA L l) a' := fun s => (LSpec_ans e s).2.2 trivial
  obtain ⟨h1, h2, h3⟩ := h.2.2
  have ev : Ev 1 p (n - l) l (lwA L l) a' := fun r hr => by
    have := h2 r hr
    unfold lf at this ⊢
    rw [← sm_congr (f := fun c => lwA L l r c * a c) (fun c hc => by rw [e c hc])]
    exact this
  refine ⟨fun c hc => by rw [← e c hc]; exact h1 c hc, ev, fun y y1 y2 => ?_⟩
  rcases h3 y y1 y2 with z | ⟨c, z1, z2, z3⟩
  · exact Or.inl (fun c hc => by rw [← e c hc]; exact z c hc)
  · exact Or.inr ⟨c, z1, fun j hj => by rw [← e j (by omega)]; exact z2 j hj, by rw [← e c z1]; exact z3⟩
set_option maxHeartbeats 4000000 in
set_option maxRecDepth 100000 in
theorem findLaw_2 {g : fG} {M : fM} {w : Nat} {p : Int} (hx : xOk M w p) (hno : ∀ m, m < 2 * w - 1 → ¬ ∃ x, Ev 1 p (2 * w - 1 - m) m (lwA (M 3 0) m) x) :
    ∀ (n m : Nat) (N : fM), m + n = 2 * w - 1 → (∀ c, c < m → N 11 0 c = 0) → gS M N → gI N → fAt g Y_X6_findLaw 36 [some (vr 0 0), some (vi (((2 * w - 1) : Nat) : Int)), some (vi (m : Int))] [] N (fI (fun z M' => ∃ l : Nat, z = (l : Int) ∧ LawS p (M 3 0) (2 * w - 1) l (M' 11 0) ∧ gS M M' ∧ gI M')) := by
  have hw1 := hx.2.2.1.2.1
  have hp2 := hx.2.1.1
  intro n
  induction n with
  | zero =>
    intro m N hn ha hS hG
    have e : m = 2 * w - 1 := by omega
    subst e
    refine st_iload_n dX6_findLaw_36 rfl ?_
    refine st_iload_n dX6_findLaw_37 rfl ?_
    refine st_icmp_ge 57 dX6_findLaw_38 (by decide) (fun h38 => ?_) (fun h38 => ?_)
    · skip
      refine st_iload_n dX6_findLaw_57 rfl ?_
      refine st_ireturn dX6_findLaw_58 rfl ⟨_, rfl, ⟨2 * w - 1, rfl, ⟨Nat.le_refl _, hno, by rw [Nat.sub_self]; exact Least_all (by omega) (fun c hc => ha c hc)⟩, hS, hG⟩⟩
    · skip
      exact absurd h38 (by omega)
  | succ n ih =>
    intro m N hn ha hS hG
    refine st_iload_n dX6_findLaw_36 rfl ?_
    refine st_iload_n dX6_findLaw_37 rfl ?_
    refine st_icmp_ge 57 dX6_findLaw_38 (by decide) (fun h38 => ?_) (fun h38 => ?_)
    · skip
      exact absurd h38 (by omega)
    · skip
      refine st_aload_n dX6_findLaw_41 rfl ?_
      refine st_getr (i' := 0) dX6_findLaw_42 fl_X6_33 rfl rfl rfl (fun _ => by decide) ?_
      refine st_getr (i' := 0) dX6_findLaw_45 fl_X6_179 rfl rfl rfl (fun _ => by decide) ?_
      refine st_iload_n dX6_findLaw_48 rfl ?_
      refine st_iconst dX6_findLaw_49 (by decide) ?_
      refine st_iast (j := m) dX6_findLaw_50 rfl rfl rfl rfl (by omega) ?_
      refine st_iinc (ls' := [some (vr 0 0), some (vi (((2 * w - 1) : Nat) : Int)), some (vi ((m : Int) + 1))]) dX6_findLaw_51 rfl (by omega) (by decide) rfl rfl ?_
      refine st_goto 36 dX6_findLaw_54 (by decide) ?_
      exact ih (m + 1) _ (by omega) (fun c hc => by
        by_cases e : c = m
        · rw [e, fup_eq]
        · rw [fup_ne (by omega)]; exact ha c (by omega)) (fun k a b q1 q2 q3 q4 => by rw [fup_ne (by omega)]; exact hS k a b q1 q2 q3 q4) ⟨hG.choose, by have h := hG.choose_spec; exact ⟨by rw [fup_ne (by omega)]; exact h.1, h.2.1, fun a h1 h2 => by rw [fup_ne (by omega)]; exact h.2.2 a h1 h2⟩⟩
set_option maxHeartbeats 4000000 in
set_option maxRecDepth 100000 in
theorem findLaw_1 {g : fG} {M : fM} {w : Nat} {p : Int} (hx : xOk M w p) :
    ∀ (n m : Nat) (N : fM), m + n = 2 * w - 1 → (∀ q, q < m → ¬ ∃ x, Ev 1 p (2 * w - 1 - q) q (lwA (M 3 0) q) x) → gS M N → gI N → fAt g Y_X6_findLaw 13 [some (vr 0 0), some (vi (((2 * w - 1) : Nat) : Int)), some (vi (m : Int))] [] N (fI (fun z M' => ∃ l : Nat, z = (l : Int) ∧ LawS p (M 3 0) (2 * w - 1) l (M' 11 0) ∧ gS M M' ∧ gI M')) := by
  have hw1 := hx.2.2.1.2.1
  have hp2 := hx.2.1.1
  intro n
  induction n with
  | zero =>
    intro m N hn hno hS hG
    have e : m = 2 * w - 1 := by omega
    subst e
    refine st_iload_n dX6_findLaw_13 rfl ?_
    refine st_iload_n dX6_findLaw_14 rfl ?_
    refine st_icmp_ge 34 dX6_findLaw_15 (by decide) (fun h15 => ?_) (fun h15 => ?_)
    · skip
      refine st_iconst dX6_findLaw_34 (by decide) ?_
      refine st_istore_n (ls' := [some (vr 0 0), some (vi (((2 * w - 1) : Nat) : Int)), some (vi 0)]) dX6_findLaw_35 (by decide) rfl rfl ?_
      exact findLaw_2 hx hno (2 * w - 1) 0 N (by omega) (fun c hc => absurd hc (by omega)) hS hG
    · skip
      exact absurd h15 (by omega)
  | succ n ih =>
    intro m N hn hno hS hG
    refine st_iload_n dX6_findLaw_13 rfl ?_
    refine st_iload_n dX6_findLaw_14 rfl ?_
    refine st_icmp_ge 34 dX6_findLaw_15 (by decide) (fun h15 => ?_) (fun h15 => ?_)
    · skip
      exact absurd h15 (by omega)
    · skip
      refine st_aload_n dX6_findLaw_18 rfl ?_
      refine st_iload_n dX6_findLaw_19 rfl ?_
      refine st_callVi [vi (m : Int)] [] dX6_findLaw_20 vl_X6_294 rfl rfl rfl rfl (Nat.le_of_ble_eq_true rfl) (by decide) (c_fitsLaw (xOk_S hx hS hG) (l := m) (by omega)) (fun z M1 q1 => ?_)
      have eL : N 3 0 = M 3 0 := funext fun q => hS 3 0 q (by decide) (by decide) (by decide) (by decide)
      obtain ⟨a, kk, q1, ha1, hS1, hG1⟩ := q1
      rw [eL] at q1
      rcases q1 with ⟨rfl, hL⟩ | ⟨rfl, hL⟩
      · skip
        refine st_if_eq 28 dX6_findLaw_23 (by decide) (fun h23 => ?_) (fun h23 => ?_)
        · skip
          exact absurd h23 (by omega)
        · skip
          refine st_iload_n dX6_findLaw_26 rfl ?_
          refine st_ireturn dX6_findLaw_27 rfl ⟨_, rfl, ⟨m, rfl, LawS_ans (fun c hc => (ha1 c hc).symm) ⟨by omega, hno, hL.2.2 trivial⟩, gS_t hS hS1, hG1⟩⟩
      · skip
        refine st_if_eq 28 dX6_findLaw_23 (by decide) (fun h23 => ?_) (fun h23 => ?_)
        · skip
          refine st_iinc (ls' := [some (vr 0 0), some (vi (((2 * w - 1) : Nat) : Int)), some (vi ((m : Int) + 1))]) dX6_findLaw_28 rfl (by omega) (by decide) rfl rfl ?_
          refine st_goto 13 dX6_findLaw_31 (by decide) ?_
          exact ih (m + 1) M1 (by omega) (fun q hq => by
            by_cases e : q = m
            · rw [e]; exact fun hex => (hL.2.1.mpr hex).elim
            · exact hno q (by omega)) (gS_t hS hS1) hG1
        · skip
          exact absurd rfl h23
set_option maxHeartbeats 4000000 in
set_option maxRecDepth 100000 in
theorem c_findLaw {g : fG} {M : fM} {w : Nat} {p : Int} (hx : xOk M w p) :
    fCi g Y_X6_findLaw [vr 0 0] M (fun z M' => ∃ l : Nat, z = (l : Int) ∧ LawS p (M 3 0) (2 * w - 1) l (M' 11 0) ∧ gS M M' ∧ gI M') := by
  have hw1 := hx.2.2.1.2.1
  have hp2 := hx.2.1.1
  refine fCi_of _ [some (vr 0 0), none, none] (by decide) (Nat.le_of_ble_eq_true rfl) rfl (fun h => h) ?_
  refine st_aload_n dX6_findLaw_0 rfl ?_
  refine st_getr (i' := 0) dX6_findLaw_1 fl_X6_12 rfl rfl rfl (fun _ => by decide) ?_
  refine st_getr (i' := 0) dX6_findLaw_4 fl_X6_76 rfl rfl rfl (fun _ => by decide) ?_
  refine st_callVi [] [] dX6_findLaw_7 vl_X6_197 rfl rfl rfl rfl (Nat.le_of_ble_eq_true rfl) (by decide) (c_rowLength hx.2.2.1.1 hx.2.2.1.2.1) (fun z M1 q => ?_)
  obtain ⟨rfl, rfl⟩ := q
  refine st_istore_n (ls' := [some (vr 0 0), some (vi (((2 * w - 1) : Nat) : Int)), none]) dX6_findLaw_10 (by decide) rfl rfl ?_
  refine st_iconst dX6_findLaw_11 (by decide) ?_
  refine st_istore_n (ls' := [some (vr 0 0), some (vi (((2 * w - 1) : Nat) : Int)), some (vi 0)]) dX6_findLaw_12 (by decide) rfl rfl ?_
  exact findLaw_1 hx (2 * w - 1) 0 M1 (by omega) (fun q hq => absurd hq (by omega)) (gS_r M1) hx.2.2.2
