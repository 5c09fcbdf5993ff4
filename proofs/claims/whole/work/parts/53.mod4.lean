/-! ===== the reference: solutions, the law ===== -/
def mS (M M' : fM) : Prop := ∀ k a b, k ≠ 24 → k ≠ 25 → k ≠ 27 → k ≠ 29 → k ≠ 30 → k ≠ 36 → ¬ (k = 22 ∧ (b = 3 ∨ b = 6)) → M' k a b = M k a b
theorem mS_r (M : fM) : mS M M := fun _ _ _ _ _ _ _ _ _ _ => rfl
theorem mS_t {M N L : fM} (h1 : mS M N) (h2 : mS N L) : mS M L := fun k a b q1 q2 q3 q4 q5 q6 q7 => (h2 k a b q1 q2 q3 q4 q5 q6 q7).trans (h1 k a b q1 q2 q3 q4 q5 q6 q7)
theorem mS_W {M : fM} {C : Nat → Nat → Int} : mS M (wW M C) := fun k a b q1 _ _ _ _ _ _ => wW_ne q1
theorem mS_T {M : fM} {C : Nat → Nat → Int} {t : Nat → Int} {kf : Int} : mS M (wW (wT M t kf) C) := fun k a b q1 q2 _ _ _ _ q7 => by
  rw [wW_ne q1]
  unfold wT
  rw [if_neg (fun h => q2 h.1), if_neg (fun h => q7 ⟨h.1, Or.inl h.2.2⟩)]
theorem mS_n {M N : fM} (h : mS M N) (b : Nat) : N 23 0 b = M 23 0 b := h 23 0 b (by decide) (by decide) (by decide) (by decide) (by decide) (by decide) (by omega)
theorem nOk_S {M N : fM} {w : Nat} {p : Int} (hn : nOk M w p) (h : mS M N) : nOk N w p := nOk_k hn (mS_n h)
theorem eN_S {M N : fM} {w : Nat} {p : Int} (h : mS M N) : eN N w p = eN M w p := by
  have e : lL N = lL M := funext fun q => mS_n h (4 + q)
  show ent p w (N 23 0 1) (lL N) = ent p w (M 23 0 1) (lL M)
  rw [mS_n h 1, e]
theorem El_t {p : Int} {R u k : Nat} {A C : Nat → Nat → Int} {t : Nat → Int} (hR : R ≤ 11) (hE : El p R u A 0 C k (tN t)) (ht : ∀ d, d < u → t d = -4 ∨ 0 ≤ t d) : ∀ d, d < u → t d = -4 ∨ (0 ≤ t d ∧ t d < 11) := by
  intro d hd
  rcases ht d hd with h | h
  · exact Or.inl h
  · right
    have e : t d = (((t d).toNat : Nat) : Int) := (Int.toNat_of_nonneg h).symm
    have h1 := (hE.2.2.2.1 d (Nat.zero_le _) hd (t d).toNat (tN_s e)).1
    have h2 := hE.2.2.1
    omega
set_option maxHeartbeats 4000000 in
set_option maxRecDepth 100000 in
theorem m_isPrime_l {g : fG} {M : fM} {q : Int} (hq : 2 ≤ q ∧ q ≤ 97) :
    ∀ (n d : Nat) (z : Int), ((d + n : Nat) : Int) = q → 2 ≤ d → ((z = 1 ∧ ∀ a : Nat, 2 ≤ a → a < d → q % (a : Int) ≠ 0) ∨ (z = 0 ∧ ∃ a : Nat, 2 ≤ a ∧ a < d ∧ q % (a : Int) = 0)) → fAt g Y_X7_isPrime 20 [some (vi q), some (vi z), some (vi (d : Int))] [] M (fI (fun z M' => ((z = 1 ∧ pOk q) ∨ (z = 0 ∧ ¬ pOk q)) ∧ M' = M)) := by
  intro n
  induction n with
  | zero =>
    intro d z hn hd hz
    refine st_iload_n dX7_isPrime_20 rfl ?_
    refine st_iload_n dX7_isPrime_21 rfl ?_
    refine st_icmp_ge 47 dX7_isPrime_22 (by decide) (fun h22 => ?_) (fun h22 => ?_)
    · skip
      refine st_iload_n dX7_isPrime_47 rfl ?_
      refine st_zreturn dX7_isPrime_48 rfl (by omega) ⟨_, rfl, ⟨?_, rfl⟩⟩
      rcases hz with ⟨h1, h2⟩ | ⟨h1, e, e1, e2, e3⟩
      · exact Or.inl ⟨h1, hq, fun a a1 a2 => h2 a a1 (by omega)⟩
      · exact Or.inr ⟨h1, fun hk => hk.2 e e1 (by omega) e3⟩
    · skip
      exact absurd h22 (by omega)
  | succ n ih =>
    intro d z hn hd hz
    refine st_iload_n dX7_isPrime_20 rfl ?_
    refine st_iload_n dX7_isPrime_21 rfl ?_
    refine st_icmp_ge 47 dX7_isPrime_22 (by decide) (fun h22 => ?_) (fun h22 => ?_)
    · skip
      exact absurd h22 (by omega)
    · skip
      refine st_iload_n dX7_isPrime_25 rfl ?_
      refine st_if_eq 39 dX7_isPrime_26 (by decide) (fun h26 => ?_) (fun h26 => ?_)
      · skip
        refine st_iconst dX7_isPrime_39 (by decide) ?_
        refine st_istore_n (ls' := [some (vi q), some (vi 0), some (vi (d : Int))]) dX7_isPrime_40 (by decide) rfl rfl ?_
        refine st_iinc (ls' := [some (vi q), some (vi 0), some (vi ((d : Int) + 1))]) dX7_isPrime_41 rfl (by omega) (by decide) rfl rfl ?_
        refine st_goto 20 dX7_isPrime_44 (by decide) ?_
        first
        | exact ih (d + 1) _ (by omega) (by omega) (Or.inl ⟨rfl, lt_sN (by rcases hz with ⟨_, h⟩ | ⟨h, _⟩; exact h; exact absurd h (by omega)) h32⟩)
        | exact ih (d + 1) _ (by omega) (by omega) (Or.inr ⟨rfl, d, by omega, by omega, h32⟩)
        | exact ih (d + 1) _ (by omega) (by omega) (Or.inr ⟨rfl, by rcases hz with ⟨h, _⟩ | ⟨_, h⟩; exact absurd h (by omega); exact h.elim (fun e he => ⟨e, he.1, by omega, he.2.2⟩)⟩)
      · skip
        refine st_iload_n dX7_isPrime_29 rfl ?_
        refine st_iload_n dX7_isPrime_30 rfl ?_
        refine st_irem dX7_isPrime_31 (by omega) (by omega) ?_
        refine st_if_eq 39 dX7_isPrime_32 (by decide) (fun h32 => ?_) (fun h32 => ?_)
        · skip
          refine st_iconst dX7_isPrime_39 (by decide) ?_
          refine st_istore_n (ls' := [some (vi q), some (vi 0), some (vi (d : Int))]) dX7_isPrime_40 (by decide) rfl rfl ?_
          refine st_iinc (ls' := [some (vi q), some (vi 0), some (vi ((d : Int) + 1))]) dX7_isPrime_41 rfl (by omega) (by decide) rfl rfl ?_
          refine st_goto 20 dX7_isPrime_44 (by decide) ?_
          first
          | exact ih (d + 1) _ (by omega) (by omega) (Or.inl ⟨rfl, lt_sN (by rcases hz with ⟨_, h⟩ | ⟨h, _⟩; exact h; exact absurd h (by omega)) h32⟩)
          | exact ih (d + 1) _ (by omega) (by omega) (Or.inr ⟨rfl, d, by omega, by omega, h32⟩)
          | exact ih (d + 1) _ (by omega) (by omega) (Or.inr ⟨rfl, by rcases hz with ⟨h, _⟩ | ⟨_, h⟩; exact absurd h (by omega); exact h.elim (fun e he => ⟨e, he.1, by omega, he.2.2⟩)⟩)
        · skip
          refine st_iconst dX7_isPrime_35 (by decide) ?_
          refine st_goto 40 dX7_isPrime_36 (by decide) ?_
          refine st_istore_n (ls' := [some (vi q), some (vi 1), some (vi (d : Int))]) dX7_isPrime_40 (by decide) rfl rfl ?_
          refine st_iinc (ls' := [some (vi q), some (vi 1), some (vi ((d : Int) + 1))]) dX7_isPrime_41 rfl (by omega) (by decide) rfl rfl ?_
          refine st_goto 20 dX7_isPrime_44 (by decide) ?_
          first
          | exact ih (d + 1) _ (by omega) (by omega) (Or.inl ⟨rfl, lt_sN (by rcases hz with ⟨_, h⟩ | ⟨h, _⟩; exact h; exact absurd h (by omega)) h32⟩)
          | exact ih (d + 1) _ (by omega) (by omega) (Or.inr ⟨rfl, d, by omega, by omega, h32⟩)
          | exact ih (d + 1) _ (by omega) (by omega) (Or.inr ⟨rfl, by rcases hz with ⟨h, _⟩ | ⟨_, h⟩; exact absurd h (by omega); exact h.elim (fun e he => ⟨e, he.1, by omega, he.2.2⟩)⟩)
set_option maxHeartbeats 4000000 in
set_option maxRecDepth 100000 in
theorem m_isPrime {g : fG} {M : fM} {q : Int} :
    fCi g Y_X7_isPrime [vi q] M (fun z M' => ((z = 1 ∧ pOk q) ∨ (z = 0 ∧ ¬ pOk q)) ∧ M' = M) := by
  refine fCi_of _ [some (vi q), none, none] (by decide) (Nat.le_of_ble_eq_true rfl) rfl (fun h => h) ?_
  refine st_iload_n dX7_isPrime_0 rfl ?_
  refine st_i2l dX7_isPrime_1 ?_
  refine st_ldc2 (v := 2) (2) dX7_isPrime_2 (ftb_in 754 (by decide +kernel) rfl) (by decide +kernel) ?_
  refine st_ldc2 (v := 97) (97) dX7_isPrime_5 (ftb_in 755 (by decide +kernel) rfl) (by decide +kernel) ?_
  refine st_callSi [vl q, vl 2, vl 97] [] dX7_isPrime_8 sl_X7_57 rfl rfl (Nat.le_of_ble_eq_true rfl) (by decide) (m_in) (fun za Ma qa => ?_)
  obtain ⟨qa, rfl⟩ := qa
  rcases qa with ⟨rfl, aa⟩ | ⟨rfl, aa⟩
  · skip
    refine st_if_ne 16 dX7_isPrime_11 (by decide) (fun h11 => ?_) (fun h11 => ?_)
    · skip
      refine st_iconst dX7_isPrime_16 (by decide) ?_
      refine st_istore_n (ls' := [some (vi q), some (vi 1), none]) dX7_isPrime_17 (by decide) rfl rfl ?_
      refine st_iconst dX7_isPrime_18 (by decide) ?_
      refine st_istore_n (ls' := [some (vi q), some (vi 1), some (vi 2)]) dX7_isPrime_19 (by decide) rfl rfl ?_
      exact m_isPrime_l (by omega) (q.toNat - 2) 2 1 (by omega) (Nat.le_refl 2) (Or.inl ⟨rfl, fun a h1 h2 => absurd h2 (by omega)⟩)
    · skip
      exact absurd h11 (by omega)
  · skip
    refine st_if_ne 16 dX7_isPrime_11 (by decide) (fun h11 => ?_) (fun h11 => ?_)
    · skip
      exact absurd h11 (by omega)
    · skip
      refine st_iconst dX7_isPrime_14 (by decide) ?_
      refine st_zreturn dX7_isPrime_15 rfl (by omega) ⟨_, rfl, ⟨Or.inr ⟨rfl, fun hk => by have := hk.1; omega⟩, rfl⟩⟩
set_option maxHeartbeats 4000000 in
set_option maxRecDepth 100000 in
theorem solves_l {g : fG} {M : fM} {w : Nat} {p : Int} (hn : nOk M w p) {x : Int} {C : Nat → Nat → Int} (hC : ∀ a b, a < w → b < w → C a b = eN M w p a b) (hC0 : ∀ a b, a < w → w ≤ b → C a b = 0) :
    ∀ (n r : Nat), r + n = w → fAt g Y_X7_solves 20 [some (vr 22 0), some (vi x), some (vi (w : Int)), some (vi (r : Int))] [] (wW M (sC C w (fun i => if x < 0 then lS M i else if (i : Int) = x then 1 else 0) r)) (fI (fun z M' => ∃ C t k, M' = wW (wT M t ((k : Nat) : Int)) C ∧ (∀ d, d < w → t d = -4 ∨ (0 ≤ t d ∧ t d < 11)) ∧ (z = 0 ∨ z = 1) ∧ LSpec p w w (aug (eN M w p) w (fun i => if x < 0 then lS M i else if (i : Int) = x then 1 else 0)) (z = 1) k (ansT C w (tN t)))) := by
  have hw1 := hn.2.2.2.1
  have hp2 := hn.2.2.1.1
  intro n
  induction n with
  | zero =>
    intro r hm
    refine st_iload_n dX7_solves_20 rfl ?_
    refine st_iload_n dX7_solves_21 rfl ?_
    refine st_icmp_ge 68 dX7_solves_22 (by decide) (fun h22 => ?_) (fun h22 => ?_)
    · skip
      have er : r = w := by omega
      subst r
      have hA : ∀ i j, i < w → j ≤ w → sC C w (fun i => if x < 0 then lS M i else if (i : Int) = x then 1 else 0) w i j = aug (eN M w p) w (fun i => if x < 0 then lS M i else if (i : Int) = x then 1 else 0) i j := by
        intro i j hi hj
        unfold sC aug
        by_cases e : j < w
        · rw [if_neg (by omega), if_pos e]; exact hC i j hi e
        · rw [if_pos ⟨hi, by omega⟩, if_neg e]
      have hside : ∀ i, i < w → 0 ≤ (fun i => if x < 0 then lS M i else if (i : Int) = x then 1 else 0) i ∧ (fun i => if x < 0 then lS M i else if (i : Int) = x then 1 else 0) i < p := by
        intro i hi
        show 0 ≤ (if x < 0 then lS M i else if (i : Int) = x then 1 else 0) ∧ (if x < 0 then lS M i else if (i : Int) = x then 1 else 0) < p
        split
        · exact hn.2.2.2.2.2.2.1 i hi
        · split <;> omega
      have hrg : rg p w (sC C w (fun i => if x < 0 then lS M i else if (i : Int) = x then 1 else 0) w) := by
        intro i j hi hj
        by_cases e : j ≤ w
        · rw [hA i j hi e]
          exact aug_rng (fun a b ha hb => eN_rng hn ha hb) hside i j hi (by omega)
        · unfold sC
          rw [if_neg (by omega), hC0 i j hi (by omega)]
          omega
      refine st_aload_n dX7_solves_68 rfl ?_
      refine st_iload_n dX7_solves_69 rfl ?_
      refine st_iload_n dX7_solves_70 rfl ?_
      refine st_callVi [vi (w : Int), vi (w : Int)] [] dX7_solves_71 vl_X7_93 rfl rfl rfl rfl (Nat.le_of_ble_eq_true rfl) (by decide) (m_worksOut hn (by omega) (by omega) hrg) (fun z Mo qo => ?_)
      obtain ⟨C3, t3, k3, rfl, hE, ht, hr3, hz⟩ := qo
      refine st_zreturn dX7_solves_74 rfl (by omega) ⟨_, rfl, ⟨C3, t3, k3, rfl, El_t (by omega) hE ht, by omega, LSpec_congr hA (LSpec_ok ?_ (El_spec hp2.1 hE))⟩⟩
      rcases hz with ⟨h1, h2⟩ | ⟨h1, h2⟩
      · exact ⟨fun _ => h1, fun _ => h2⟩
      · exact ⟨fun q => absurd q h2, fun q => absurd q (by omega)⟩
    · skip
      exact absurd h22 (by omega)
  | succ n ih =>
    intro r hm
    refine st_iload_n dX7_solves_20 rfl ?_
    refine st_iload_n dX7_solves_21 rfl ?_
    refine st_icmp_ge 68 dX7_solves_22 (by decide) (fun h22 => ?_) (fun h22 => ?_)
    · skip
      exact absurd h22 (by omega)
    · skip
      refine st_aload_n dX7_solves_25 rfl ?_
      refine st_getr (i' := 0) dX7_solves_26 fl_X7_13 rfl rfl rfl (fun _ => by decide) ?_
      refine st_bipush dX7_solves_29 (by decide) ?_
      refine st_iload_n dX7_solves_31 rfl ?_
      refine st_imul dX7_solves_32 (by omega) ?_
      refine st_iload_n dX7_solves_33 rfl ?_
      refine st_iadd dX7_solves_34 (by omega) ?_
      refine st_iload_n dX7_solves_35 rfl ?_
      refine st_if_ge 51 dX7_solves_36 (by decide) (fun h36 => ?_) (fun h36 => ?_)
      · skip
        refine st_iload_n dX7_solves_51 rfl ?_
        refine st_iload_n dX7_solves_52 rfl ?_
        refine st_icmp_ne 60 dX7_solves_53 (by decide) (fun h53 => ?_) (fun h53 => ?_)
        · skip
          refine st_iconst dX7_solves_60 (by decide) ?_
          refine fAt_v (x' := (fun i => if x < 0 then lS M i else if (i : Int) = x then 1 else 0) r) (by
            show _ = (if x < 0 then lS M r else if (r : Int) = x then 1 else 0)
            first
            | (rw [if_pos (by omega)]; rfl)
            | (rw [if_neg (by omega), if_pos (by omega)]; done)
            | rw [if_neg (by omega), if_neg (by omega)]) ?_
          refine st_iast (j := ((13 * r) + w)) dX7_solves_61 rfl rfl rfl (by omega) (by omega) ?_
          refine fAt_m (wW_up _ _ _ _ _ (by omega)) ?_
          refine fAt_m (congrArg (wW M) (sC_s C w (fun i => if x < 0 then lS M i else if (i : Int) = x then 1 else 0) r)) ?_
          refine st_iinc (ls' := [some (vr 22 0), some (vi x), some (vi (w : Int)), some (vi ((r : Int) + 1))]) dX7_solves_62 rfl (by omega) (by decide) rfl rfl ?_
          refine st_goto 20 dX7_solves_65 (by decide) ?_
          exact ih (r + 1) (by omega)
        · skip
          refine st_iconst dX7_solves_56 (by decide) ?_
          refine st_goto 61 dX7_solves_57 (by decide) ?_
          refine fAt_v (x' := (fun i => if x < 0 then lS M i else if (i : Int) = x then 1 else 0) r) (by
            show _ = (if x < 0 then lS M r else if (r : Int) = x then 1 else 0)
            first
            | (rw [if_pos (by omega)]; rfl)
            | (rw [if_neg (by omega), if_pos (by omega)]; done)
            | rw [if_neg (by omega), if_neg (by omega)]) ?_
          refine st_iast (j := ((13 * r) + w)) dX7_solves_61 rfl rfl rfl (by omega) (by omega) ?_
          refine fAt_m (wW_up _ _ _ _ _ (by omega)) ?_
          refine fAt_m (congrArg (wW M) (sC_s C w (fun i => if x < 0 then lS M i else if (i : Int) = x then 1 else 0) r)) ?_
          refine st_iinc (ls' := [some (vr 22 0), some (vi x), some (vi (w : Int)), some (vi ((r : Int) + 1))]) dX7_solves_62 rfl (by omega) (by decide) rfl rfl ?_
          refine st_goto 20 dX7_solves_65 (by decide) ?_
          exact ih (r + 1) (by omega)
      · skip
        refine st_aload_n dX7_solves_39 rfl ?_
        refine st_getr (i' := 0) dX7_solves_40 fl_X7_7 rfl rfl rfl (fun _ => by decide) ?_
        refine st_bipush dX7_solves_43 (by decide) ?_
        refine st_iload_n dX7_solves_45 rfl ?_
        refine st_iadd dX7_solves_46 (by omega) ?_
        refine st_iald (j := (15 + r)) dX7_solves_47 rfl rfl rfl (by omega) (by omega) ?_
        refine st_goto 61 dX7_solves_48 (by decide) ?_
        refine fAt_v (x' := (fun i => if x < 0 then lS M i else if (i : Int) = x then 1 else 0) r) (by
          show _ = (if x < 0 then lS M r else if (r : Int) = x then 1 else 0)
          first
          | (rw [if_pos (by omega)]; rfl)
          | (rw [if_neg (by omega), if_pos (by omega)]; done)
          | rw [if_neg (by omega), if_neg (by omega)]) ?_
        refine st_iast (j := ((13 * r) + w)) dX7_solves_61 rfl rfl rfl (by omega) (by omega) ?_
        refine fAt_m (wW_up _ _ _ _ _ (by omega)) ?_
        refine fAt_m (congrArg (wW M) (sC_s C w (fun i => if x < 0 then lS M i else if (i : Int) = x then 1 else 0) r)) ?_
        refine st_iinc (ls' := [some (vr 22 0), some (vi x), some (vi (w : Int)), some (vi ((r : Int) + 1))]) dX7_solves_62 rfl (by omega) (by decide) rfl rfl ?_
        refine st_goto 20 dX7_solves_65 (by decide) ?_
        exact ih (r + 1) (by omega)
set_option maxHeartbeats 4000000 in
set_option maxRecDepth 100000 in
theorem m_solves {g : fG} {M : fM} {w : Nat} {p : Int} (hn : nOk M w p) {x : Int} :
    fCi g Y_X7_solves [vr 22 0, vi x] M (fun z M' => ∃ C t k, M' = wW (wT M t ((k : Nat) : Int)) C ∧ (∀ d, d < w → t d = -4 ∨ (0 ≤ t d ∧ t d < 11)) ∧ (z = 0 ∨ z = 1) ∧ LSpec p w w (aug (eN M w p) w (fun i => if x < 0 then lS M i else if (i : Int) = x then 1 else 0)) (z = 1) k (ansT C w (tN t))) := by
  have hw1 := hn.2.2.2.1
  have hp2 := hn.2.2.1.1
  refine fCi_of _ [some (vr 22 0), some (vi x), none, none] (by decide) (Nat.le_of_ble_eq_true rfl) rfl (fun h => h) ?_
  refine st_aload_n dX7_solves_0 rfl ?_
  refine st_getr (i' := 0) dX7_solves_1 fl_X7_7 rfl rfl rfl (fun _ => by decide) ?_
  refine st_iconst dX7_solves_4 (by decide) ?_
  refine st_iald (j := 0) dX7_solves_5 rfl rfl rfl rfl (by decide) ?_
  refine fAt_v (x' := (w : Int)) hn.1 ?_
  refine st_istore_n (ls' := [some (vr 22 0), some (vi x), some (vi (w : Int)), none]) dX7_solves_6 (by decide) rfl rfl ?_
  refine st_aload_n dX7_solves_7 rfl ?_
  refine st_iload_n dX7_solves_8 rfl ?_
  refine st_aload_n dX7_solves_9 rfl ?_
  refine st_getr (i' := 0) dX7_solves_10 fl_X7_7 rfl rfl rfl (fun _ => by decide) ?_
  refine st_iconst dX7_solves_13 (by decide) ?_
  refine st_iald (j := 1) dX7_solves_14 rfl rfl rfl rfl (by decide) ?_
  refine fAt_v (x' := M 23 0 1) rfl ?_
  refine st_callVv [vi (w : Int), vi (M 23 0 1)] [] dX7_solves_15 vl_X7_69 rfl rfl rfl rfl (Nat.le_of_ble_eq_true rfl) (by decide) (m_fills hn (Nat.le_refl w) hn.2.2.2.2.1) (fun Mf qf => ?_)
  obtain ⟨D, rfl, hD1, hD2⟩ := qf
  refine st_iconst dX7_solves_18 (by decide) ?_
  refine st_istore_n (ls' := [some (vr 22 0), some (vi x), some (vi (w : Int)), some (vi 0)]) dX7_solves_19 (by decide) rfl rfl ?_
  refine fAt_m (congrArg (wW M) (sC_0 D w (fun i => if x < 0 then lS M i else if (i : Int) = x then 1 else 0)).symm) ?_
  exact solves_l hn hD1 hD2 w 0 (by omega)
set_option maxHeartbeats 4000000 in
set_option maxRecDepth 100000 in
theorem ways_l {g : fG} {M : fM} {w : Nat} {p : Int} (hn : nOk M w p) {C : Nat → Nat → Int} {t : Nat → Int} {kk : Nat} (ht : ∀ d, d < w → t d = -4 ∨ (0 ≤ t d ∧ t d < 11)) (hL : LSpec p w w (aug (eN M w p) w (lS M)) True kk (ansT C w (tN t))) (hkw : kk ≤ w) :
    ∀ (n m : Nat), kk + m + n = w → fAt g Y_X7_ways 17 [some (vr 22 0), some (vl (p ^ m)), none, some (vi (((kk + m) : Nat) : Int))] [] (wW (wT M t (kk : Int)) C) (fL (fun z M' => ∃ C t kf, M' = wW (wT M t kf) C ∧ (∀ d, d < w → t d = -4 ∨ (0 ≤ t d ∧ t d < 11)) ∧ SolZ p w (aug (eN M w p) w (lS M)) z (ansT C w (tN t)))) := by
  have hw1 := hn.2.2.2.1
  have hp2 := hn.2.2.1.1
  intro n
  induction n with
  | zero =>
    intro m hm
    refine st_iload_n dX7_ways_17 rfl ?_
    refine st_aload_n dX7_ways_18 rfl ?_
    refine st_getr (i' := 0) dX7_ways_19 fl_X7_7 rfl rfl rfl (fun _ => by decide) ?_
    refine st_iconst dX7_ways_22 (by decide) ?_
    refine st_iald (j := 0) dX7_ways_23 rfl rfl rfl rfl (by decide) ?_
    refine fAt_v (x' := (w : Int)) hn.1 ?_
    refine st_icmp_ge 43 dX7_ways_24 (by decide) (fun h24 => ?_) (fun h24 => ?_)
    · skip
      refine st_lload_n dX7_ways_43 rfl ?_
      refine st_lreturn dX7_ways_44 rfl ⟨_, rfl, ⟨C, t, _, rfl, ht, kk, Or.inr ⟨by rw [show w - kk = m by omega], hL⟩⟩⟩
    · skip
      exact absurd h24 (by omega)
  | succ n ih =>
    intro m hm
    refine st_iload_n dX7_ways_17 rfl ?_
    refine st_aload_n dX7_ways_18 rfl ?_
    refine st_getr (i' := 0) dX7_ways_19 fl_X7_7 rfl rfl rfl (fun _ => by decide) ?_
    refine st_iconst dX7_ways_22 (by decide) ?_
    refine st_iald (j := 0) dX7_ways_23 rfl rfl rfl rfl (by decide) ?_
    refine fAt_v (x' := (w : Int)) hn.1 ?_
    refine st_icmp_ge 43 dX7_ways_24 (by decide) (fun h24 => ?_) (fun h24 => ?_)
    · skip
      exact absurd h24 (by omega)
    · skip
      refine st_lload_n dX7_ways_27 rfl ?_
      refine st_aload_n dX7_ways_28 rfl ?_
      refine st_getr (i' := 0) dX7_ways_29 fl_X7_7 rfl rfl rfl (fun _ => by decide) ?_
      refine st_iconst dX7_ways_32 (by decide) ?_
      refine st_iald (j := 2) dX7_ways_33 rfl rfl rfl rfl (by decide) ?_
      refine fAt_v (x' := p) hn.2.1 ?_
      refine st_i2l dX7_ways_34 ?_
      refine st_lmul dX7_ways_35 (by rw [← Int.pow_succ]; exact pow_r64 (by omega) (by omega)) ?_
      refine st_lstore_n (ls' := [some (vr 22 0), some (vl ((p ^ m) * p)), none, some (vi (((kk + m) : Nat) : Int))]) dX7_ways_36 (by decide) rfl rfl ?_
      refine st_iinc (ls' := [some (vr 22 0), some (vl ((p ^ m) * p)), none, some (vi ((((kk + m) : Nat) : Int) + 1))]) dX7_ways_37 rfl (by omega) (by decide) rfl rfl ?_
      refine st_goto 17 dX7_ways_40 (by decide) ?_
      refine fAt_ls (ls' := [some (vr 22 0), some (vl (p ^ (m + 1))), none, some (vi ((kk + (m + 1) : Nat) : Int))]) (by rw [Int.pow_succ]; rfl) ?_
      exact ih (m + 1) (by omega)
set_option maxHeartbeats 4000000 in
set_option maxRecDepth 100000 in
theorem m_ways {g : fG} {M : fM} {w : Nat} {p : Int} (hn : nOk M w p) :
    fCl g Y_X7_ways [vr 22 0] M (fun z M' => ∃ C t kf, M' = wW (wT M t kf) C ∧ (∀ d, d < w → t d = -4 ∨ (0 ≤ t d ∧ t d < 11)) ∧ SolZ p w (aug (eN M w p) w (lS M)) z (ansT C w (tN t))) := by
  have hw1 := hn.2.2.2.1
  have hp2 := hn.2.2.1.1
  refine fCl_of _ [some (vr 22 0), none, none, none] (by decide) (Nat.le_of_ble_eq_true rfl) rfl (fun h => h) ?_
  refine st_aload_n dX7_ways_0 rfl ?_
  refine st_iconst dX7_ways_1 (by decide) ?_
  refine st_callVi [vi (-1)] [] dX7_ways_2 vl_X7_97 rfl rfl rfl rfl (Nat.le_of_ble_eq_true rfl) (by decide) (m_solves hn) (fun z Ms qs => ?_)
  obtain ⟨C, t, kk, rfl, ht, hz, hL⟩ := qs
  have eS : aug (eN M w p) w (fun i => if (-1 : Int) < 0 then lS M i else if (i : Int) = -1 then 1 else 0) = aug (eN M w p) w (lS M) := by
    congr 1
  rw [eS] at hL
  rcases hz with rfl | rfl
  · skip
    refine st_if_ne 10 dX7_ways_5 (by decide) (fun h5 => ?_) (fun h5 => ?_)
    · skip
      exact absurd rfl h5
    · skip
      refine st_lconst0 dX7_ways_8 ?_
      refine st_lreturn dX7_ways_9 rfl ⟨_, rfl, ⟨C, t, _, rfl, ht, kk, Or.inl ⟨rfl, LSpec_ok ⟨fun q => absurd q (by decide), fun q => q.elim⟩ hL⟩⟩⟩
  · skip
    refine st_if_ne 10 dX7_ways_5 (by decide) (fun h5 => ?_) (fun h5 => ?_)
    · skip
      refine st_lconst1 dX7_ways_10 ?_
      refine st_lstore_n (ls' := [some (vr 22 0), some (vl 1), none, none]) dX7_ways_11 (by decide) rfl rfl ?_
      refine st_aload_n dX7_ways_12 rfl ?_
      refine st_get dX7_ways_13 fl_X7_87 rfl rfl rfl ?_
      refine fAt_v (x' := (kk : Int)) (wT_kat _ _ _ _) ?_
      refine st_istore_n (ls' := [some (vr 22 0), some (vl 1), none, some (vi (kk : Int))]) dX7_ways_16 (by decide) rfl rfl ?_
      have hkw := LSpec_le hL
      refine fAt_ls (ls' := [some (vr 22 0), some (vl (p ^ 0)), none, some (vi ((kk + 0 : Nat) : Int))]) (by rw [Int.pow_zero]; rfl) ?_
      exact ways_l hn ht (LSpec_ok ⟨fun _ => trivial, fun _ => rfl⟩ hL) hkw (w - kk) 0 (by omega)
    · skip
      exact absurd h5 (by omega)
set_option maxHeartbeats 4000000 in
set_option maxRecDepth 100000 in
theorem singular_l {g : fG} {M : fM} {w : Nat} {p : Int} (hn : nOk M w p) :
    ∀ (n c : Nat) (Nn : fM), c + n = w → mS M Nn → fAt g Y_X7_singular 4 [some (vr 22 0), some (vi (sst (fun k => dt k (eN M w p) % p) c)), some (vi ((c : Int) + 1))] [] Nn (fI (fun z M' => z = sst (fun k => dt k (eN M w p) % p) w ∧ mS M M')) := by
  have hw1 := hn.2.2.2.1
  have hp2 := hn.2.2.1.1
  intro n
  induction n with
  | zero =>
    intro c Nn hm hS
    have hn1 := nOk_S hn hS
    refine st_iload_n dX7_singular_4 rfl ?_
    refine st_aload_n dX7_singular_5 rfl ?_
    refine st_getr (i' := 0) dX7_singular_6 fl_X7_7 rfl rfl rfl (fun _ => by decide) ?_
    refine st_iconst dX7_singular_9 (by decide) ?_
    refine st_iald (j := 0) dX7_singular_10 rfl rfl rfl rfl (by decide) ?_
    refine fAt_v (x' := (w : Int)) hn1.1 ?_
    refine st_icmp_gt 38 dX7_singular_11 (by decide) (fun h11 => ?_) (fun h11 => ?_)
    · skip
      refine st_iload_n dX7_singular_38 rfl ?_
      refine st_ireturn dX7_singular_39 rfl ⟨_, rfl, ⟨?_, hS⟩⟩
      rw [show c = w by omega]
    · skip
      exact absurd h11 (by omega)
  | succ n ih =>
    intro c Nn hm hS
    have hn1 := nOk_S hn hS
    refine st_iload_n dX7_singular_4 rfl ?_
    refine st_aload_n dX7_singular_5 rfl ?_
    refine st_getr (i' := 0) dX7_singular_6 fl_X7_7 rfl rfl rfl (fun _ => by decide) ?_
    refine st_iconst dX7_singular_9 (by decide) ?_
    refine st_iald (j := 0) dX7_singular_10 rfl rfl rfl rfl (by decide) ?_
    refine fAt_v (x' := (w : Int)) hn1.1 ?_
    refine st_icmp_gt 38 dX7_singular_11 (by decide) (fun h11 => ?_) (fun h11 => ?_)
    · skip
      exact absurd h11 (by omega)
    · skip
      refine st_iload_n dX7_singular_14 rfl ?_
      refine st_aload_n dX7_singular_15 rfl ?_
      refine st_iload_n dX7_singular_16 rfl ?_
      refine st_callVi [vi ((c : Int) + 1)] [vi (sst (fun k => dt k (eN M w p) % p) c)] dX7_singular_17 vl_X7_117 rfl rfl rfl rfl (Nat.le_of_ble_eq_true rfl) (by decide) (m_cornerOf (n := c + 1) hn1 (by omega)) (fun z Mc qc => ?_)
      obtain ⟨rfl, D, rfl⟩ := qc
      rw [eN_S hS]
      refine st_if_ne 29 dX7_singular_20 (by decide) (fun h20 => ?_) (fun h20 => ?_)
      · skip
        have hz := h20
        refine st_iconst dX7_singular_29 (by decide) ?_
        refine st_ior dX7_singular_30 ?_
        refine st_istore_n (ls' := [some (vr 22 0), some (vi (Int32.ofInt (sst (fun k => dt k (eN M w p) % p) c) ||| Int32.ofInt 0).toInt), some (vi ((c : Int) + 1))]) dX7_singular_31 (by decide) rfl rfl ?_
        refine st_iinc (ls' := [some (vr 22 0), some (vi (Int32.ofInt (sst (fun k => dt k (eN M w p) % p) c) ||| Int32.ofInt 0).toInt), some (vi (((c : Int) + 1) + 1))]) dX7_singular_32 rfl (by omega) (by decide) rfl rfl ?_
        refine st_goto 4 dX7_singular_35 (by decide) ?_
        refine fAt_ls (ls' := [some (vr 22 0), some (vi (sst (fun k => dt k (eN M w p) % p) (c + 1))), some (vi (((c + 1 : Nat) : Int) + 1))]) (by
          show _ = [some (vr 22 0), some (vi (Int32.ofInt (sst (fun k => dt k (eN M w p) % p) c) ||| Int32.ofInt (if dt (c + 1) (eN M w p) % p = 0 then (Int32.ofInt 1 <<< (Int32.ofInt ((c : Int) + 1) &&& 31)).toInt else 0)).toInt), some (vi (((c + 1 : Nat) : Int) + 1))]
          first
          | (rw [if_pos hz]; rfl)
          | (rw [if_neg hz]; rfl)) ?_
        exact ih (c + 1) _ (by omega) (mS_t hS mS_W)
      · skip
        have hz := h20
        refine st_iconst dX7_singular_23 (by decide) ?_
        refine st_iload_n dX7_singular_24 rfl ?_
        refine st_ishl dX7_singular_25 ?_
        refine st_goto 30 dX7_singular_26 (by decide) ?_
        refine st_ior dX7_singular_30 ?_
        refine st_istore_n (ls' := [some (vr 22 0), some (vi (Int32.ofInt (sst (fun k => dt k (eN M w p) % p) c) ||| Int32.ofInt (Int32.ofInt 1 <<< (Int32.ofInt ((c : Int) + 1) &&& 31)).toInt).toInt), some (vi ((c : Int) + 1))]) dX7_singular_31 (by decide) rfl rfl ?_
        refine st_iinc (ls' := [some (vr 22 0), some (vi (Int32.ofInt (sst (fun k => dt k (eN M w p) % p) c) ||| Int32.ofInt (Int32.ofInt 1 <<< (Int32.ofInt ((c : Int) + 1) &&& 31)).toInt).toInt), some (vi (((c : Int) + 1) + 1))]) dX7_singular_32 rfl (by omega) (by decide) rfl rfl ?_
        refine st_goto 4 dX7_singular_35 (by decide) ?_
        refine fAt_ls (ls' := [some (vr 22 0), some (vi (sst (fun k => dt k (eN M w p) % p) (c + 1))), some (vi (((c + 1 : Nat) : Int) + 1))]) (by
          show _ = [some (vr 22 0), some (vi (Int32.ofInt (sst (fun k => dt k (eN M w p) % p) c) ||| Int32.ofInt (if dt (c + 1) (eN M w p) % p = 0 then (Int32.ofInt 1 <<< (Int32.ofInt ((c : Int) + 1) &&& 31)).toInt else 0)).toInt), some (vi (((c + 1 : Nat) : Int) + 1))]
          first
          | (rw [if_pos hz]; rfl)
          | (rw [if_neg hz]; rfl)) ?_
        exact ih (c + 1) _ (by omega) (mS_t hS mS_W)
set_option maxHeartbeats 4000000 in
set_option maxRecDepth 100000 in
theorem m_singular {g : fG} {M : fM} {w : Nat} {p : Int} (hn : nOk M w p) :
    fCi g Y_X7_singular [vr 22 0] M (fun z M' => z = sst (fun k => dt k (eN M w p) % p) w ∧ mS M M') := by
  have hw1 := hn.2.2.2.1
  have hp2 := hn.2.2.1.1
  refine fCi_of _ [some (vr 22 0), none, none] (by decide) (Nat.le_of_ble_eq_true rfl) rfl (fun h => h) ?_
  refine st_iconst dX7_singular_0 (by decide) ?_
  refine st_istore_n (ls' := [some (vr 22 0), some (vi 0), none]) dX7_singular_1 (by decide) rfl rfl ?_
  refine st_iconst dX7_singular_2 (by decide) ?_
  refine st_istore_n (ls' := [some (vr 22 0), some (vi 0), some (vi 1)]) dX7_singular_3 (by decide) rfl rfl ?_
  exact singular_l hn w 0 M (by omega) (mS_r M)
set_option maxHeartbeats 4000000 in
set_option maxRecDepth 100000 in
theorem m_rankOf {g : fG} {M : fM} {w : Nat} {p : Int} (hn : nOk M w p) :
    fCi g Y_X7_rankOf [vr 22 0] M (fun z M' => (∃ kk ok a s, z = ((kk : Nat) : Int) ∧ LSpec p w w (aug (eN M w p) w s) ok kk a) ∧ mS M M') := by
  have hw1 := hn.2.2.2.1
  have hp2 := hn.2.2.1.1
  refine fCi_of _ [some (vr 22 0), none] (by decide) (Nat.le_of_ble_eq_true rfl) rfl (fun h => h) ?_
  refine st_aload_n dX7_rankOf_0 rfl ?_
  refine st_iconst dX7_rankOf_1 (by decide) ?_
  refine st_callVi [vi (-1)] [] dX7_rankOf_2 vl_X7_97 rfl rfl rfl rfl (Nat.le_of_ble_eq_true rfl) (by decide) (m_solves hn) (fun z Ms qs => ?_)
  obtain ⟨C, t, kk, rfl, ht, hz, hL⟩ := qs
  refine st_istore_n (ls' := [some (vr 22 0), some (vi z)]) dX7_rankOf_5 (by decide) rfl rfl ?_
  refine st_iload_n dX7_rankOf_6 rfl ?_
  refine st_if_ne 17 dX7_rankOf_7 (by decide) (fun h7 => ?_) (fun h7 => ?_)
  · skip
    refine st_aload_n dX7_rankOf_17 rfl ?_
    refine st_get dX7_rankOf_18 fl_X7_87 rfl rfl rfl ?_
    refine fAt_v (x' := (kk : Int)) (wT_kat _ _ _ _) ?_
    refine st_goto 26 dX7_rankOf_21 (by decide) ?_
    refine st_ireturn dX7_rankOf_26 rfl ⟨_, rfl, ⟨⟨kk, _, _, _, rfl, hL⟩, mS_T⟩⟩
  · skip
    refine st_aload_n dX7_rankOf_10 rfl ?_
    refine st_get dX7_rankOf_11 fl_X7_87 rfl rfl rfl ?_
    refine fAt_v (x' := (kk : Int)) (wT_kat _ _ _ _) ?_
    refine st_if_lt 24 dX7_rankOf_14 (by decide) (fun h14 => ?_) (fun h14 => ?_)
    · skip
      exact absurd h14 (by omega)
    · skip
      refine st_aload_n dX7_rankOf_17 rfl ?_
      refine st_get dX7_rankOf_18 fl_X7_87 rfl rfl rfl ?_
      refine fAt_v (x' := (kk : Int)) (wT_kat _ _ _ _) ?_
      refine st_goto 26 dX7_rankOf_21 (by decide) ?_
      refine st_ireturn dX7_rankOf_26 rfl ⟨_, rfl, ⟨⟨kk, _, _, _, rfl, hL⟩, mS_T⟩⟩
def lwZ (L : Nat → Int) (l : Nat) : Nat → Nat → Int := fun r c => if c ≤ l then lwA L l r c else 0
/-- rows below a are told; in row a the places below b -/
def lwB (C : Nat → Nat → Int) (L : Nat → Int) (l a b : Nat) : Nat → Nat → Int := fun i j => if i < a then lwZ L l i j else if i = a ∧ j < b then (if j < l then L (i + l - 1 - j) else 0) else C i j
theorem lwB_s (C : Nat → Nat → Int) (L : Nat → Int) (l a b : Nat) : (fun i j => if i = a ∧ j = b then (if b < l then L (a + l - 1 - b) else 0) else lwB C L l a b i j) = lwB C L l a (b + 1) := by
  funext i j
  simp only [lwB]
  grind (splits := 40)
theorem lwB_n (M : fM) (C : Nat → Nat → Int) (L : Nat → Int) (l a : Nat) (hl : l < 13) : wW M (fun i j => if i = a ∧ j = l then L (a + l) else lwB C L l a 13 i j) = wW M (lwB C L l (a + 1) 0) := wW_c (fun i j hj => by
  simp only [lwB, lwZ, lwA]
  grind (splits := 40))
theorem lwB_0 (C : Nat → Nat → Int) (L : Nat → Int) (l : Nat) : lwB C L l 0 0 = C := by
  funext i j
  unfold lwB
  rw [if_neg (by omega), if_neg (by omega)]
set_option maxHeartbeats 4000000 in
set_option maxRecDepth 100000 in
theorem isLaw_i {g : fG} {M : fM} {w : Nat} {p : Int} (hn : nOk M w p) {l : Nat} (hl : l ≤ 2 * w - 1) {C : Nat → Nat → Int} {r : Nat} {Q : Option fV → fM → Prop} (hr : r < 2 * w - 1 - l) (hk : fAt g Y_X7_isLaw 7 [some (vr 22 0), some (vi (l : Int)), some (vi ((2 * w - 1 : Nat) : Int)), some (vi ((r : Int) + 1)), none] [] (wW M (lwB C (lL M) l (r + 1) 0)) Q) :
    ∀ (n c : Nat), c + n = 13 → fAt g Y_X7_isLaw 17 [some (vr 22 0), some (vi (l : Int)), some (vi (((2 * w - 1) : Nat) : Int)), some (vi (r : Int)), some (vi (c : Int))] [] (wW M (lwB C (lL M) l r c)) Q := by
  have hw1 := hn.2.2.2.1
  have hp2 := hn.2.2.1.1
  intro n
  induction n with
  | zero =>
    intro c hm
    refine st_iload dX7_isLaw_17 rfl ?_
    refine st_bipush dX7_isLaw_19 (by decide) ?_
    refine st_icmp_ge 67 dX7_isLaw_21 (by decide) (fun h21 => ?_) (fun h21 => ?_)
    · skip
      refine st_aload_n dX7_isLaw_67 rfl ?_
      refine st_getr (i' := 0) dX7_isLaw_68 fl_X7_13 rfl rfl rfl (fun _ => by decide) ?_
      refine st_bipush dX7_isLaw_71 (by decide) ?_
      refine st_iload_n dX7_isLaw_73 rfl ?_
      refine st_imul dX7_isLaw_74 (by omega) ?_
      refine st_iload_n dX7_isLaw_75 rfl ?_
      refine st_iadd dX7_isLaw_76 (by omega) ?_
      refine st_aload_n dX7_isLaw_77 rfl ?_
      refine st_getr (i' := 0) dX7_isLaw_78 fl_X7_7 rfl rfl rfl (fun _ => by decide) ?_
      refine st_iconst dX7_isLaw_81 (by decide) ?_
      refine st_iload_n dX7_isLaw_82 rfl ?_
      refine st_iadd dX7_isLaw_83 (by omega) ?_
      refine st_iload_n dX7_isLaw_84 rfl ?_
      refine st_iadd dX7_isLaw_85 (by omega) ?_
      refine st_iald (j := (4 + (r + l))) dX7_isLaw_86 rfl rfl rfl (by omega) (by omega) ?_
      refine fAt_v (x' := lL M (r + l)) rfl ?_
      refine st_iast (j := ((13 * r) + l)) dX7_isLaw_87 rfl rfl rfl (by omega) (by omega) ?_
      refine fAt_m (wW_up _ _ _ _ _ (by omega)) ?_
      refine fAt_m (show _ = wW M (lwB C (lL M) l (r + 1) 0) from by rw [show c = 13 by omega]; exact lwB_n M C (lL M) l r (by omega)) ?_
      refine st_iinc (ls' := [some (vr 22 0), some (vi (l : Int)), some (vi (((2 * w - 1) : Nat) : Int)), some (vi ((r : Int) + 1)), some (vi (c : Int))]) dX7_isLaw_88 rfl (by omega) (by decide) rfl rfl ?_
      refine st_goto 7 dX7_isLaw_91 (by decide) ?_
      refine fAt_del 4 rfl ?_
      exact hk
    · skip
      exact absurd h21 (by omega)
  | succ n ih =>
    intro c hm
    refine st_iload dX7_isLaw_17 rfl ?_
    refine st_bipush dX7_isLaw_19 (by decide) ?_
    refine st_icmp_ge 67 dX7_isLaw_21 (by decide) (fun h21 => ?_) (fun h21 => ?_)
    · skip
      exact absurd h21 (by omega)
    · skip
      refine st_aload_n dX7_isLaw_24 rfl ?_
      refine st_getr (i' := 0) dX7_isLaw_25 fl_X7_13 rfl rfl rfl (fun _ => by decide) ?_
      refine st_bipush dX7_isLaw_28 (by decide) ?_
      refine st_iload_n dX7_isLaw_30 rfl ?_
      refine st_imul dX7_isLaw_31 (by omega) ?_
      refine st_iload dX7_isLaw_32 rfl ?_
      refine st_iadd dX7_isLaw_34 (by omega) ?_
      refine st_iload dX7_isLaw_35 rfl ?_
      refine st_iload_n dX7_isLaw_37 rfl ?_
      refine st_icmp_ge 59 dX7_isLaw_38 (by decide) (fun h38 => ?_) (fun h38 => ?_)
      · skip
        refine st_iconst dX7_isLaw_59 (by decide) ?_
        refine fAt_v (x' := if c < l then lL M (r + l - 1 - c) else 0) (by first | (rw [if_pos (by omega)]; rfl) | rw [if_neg (by omega)]) ?_
        refine st_iast (j := ((13 * r) + c)) dX7_isLaw_60 rfl rfl rfl (by omega) (by omega) ?_
        refine fAt_m (wW_up _ _ _ _ _ (by omega)) ?_
        refine fAt_m (congrArg (wW M) (lwB_s C (lL M) l r c)) ?_
        refine st_iinc (ls' := [some (vr 22 0), some (vi (l : Int)), some (vi (((2 * w - 1) : Nat) : Int)), some (vi (r : Int)), some (vi ((c : Int) + 1))]) dX7_isLaw_61 rfl (by omega) (by decide) rfl rfl ?_
        refine st_goto 17 dX7_isLaw_64 (by decide) ?_
        exact ih (c + 1) (by omega)
      · skip
        refine st_aload_n dX7_isLaw_41 rfl ?_
        refine st_getr (i' := 0) dX7_isLaw_42 fl_X7_7 rfl rfl rfl (fun _ => by decide) ?_
        refine st_iconst dX7_isLaw_45 (by decide) ?_
        refine st_iload_n dX7_isLaw_46 rfl ?_
        refine st_iadd dX7_isLaw_47 (by omega) ?_
        refine st_iload_n dX7_isLaw_48 rfl ?_
        refine st_iadd dX7_isLaw_49 (by omega) ?_
        refine st_iconst dX7_isLaw_50 (by decide) ?_
        refine st_isub dX7_isLaw_51 (by omega) ?_
        refine st_iload dX7_isLaw_52 rfl ?_
        refine st_isub dX7_isLaw_54 (by omega) ?_
        refine st_iald (j := (4 + (r + l - 1 - c))) dX7_isLaw_55 rfl rfl rfl (by omega) (by omega) ?_
        refine st_goto 60 dX7_isLaw_56 (by decide) ?_
        refine fAt_v (x' := if c < l then lL M (r + l - 1 - c) else 0) (by first | (rw [if_pos (by omega)]; rfl) | rw [if_neg (by omega)]) ?_
        refine st_iast (j := ((13 * r) + c)) dX7_isLaw_60 rfl rfl rfl (by omega) (by omega) ?_
        refine fAt_m (wW_up _ _ _ _ _ (by omega)) ?_
        refine fAt_m (congrArg (wW M) (lwB_s C (lL M) l r c)) ?_
        refine st_iinc (ls' := [some (vr 22 0), some (vi (l : Int)), some (vi (((2 * w - 1) : Nat) : Int)), some (vi (r : Int)), some (vi ((c : Int) + 1))]) dX7_isLaw_61 rfl (by omega) (by decide) rfl rfl ?_
        refine st_goto 17 dX7_isLaw_64 (by decide) ?_
        exact ih (c + 1) (by omega)
def wE (M : fM) (a : Nat → Int) (n : Nat) : fM := fun k i j => if k = 29 ∧ i = 0 ∧ 1 ≤ j ∧ j < n + 1 then a (j - 1) else M k i j
theorem wE_s (M : fM) (a : Nat → Int) (n : Nat) : fup (wE M a n) 29 0 (n + 1) (a n) = wE M a (n + 1) := by
  funext k i j
  unfold fup wE
  by_cases e : k = 29 ∧ i = 0 ∧ j = n + 1
  · rw [if_pos e, if_pos (by omega), show j - 1 = n by omega]
  · rw [if_neg e]
    by_cases e2 : k = 29 ∧ i = 0 ∧ 1 ≤ j ∧ j < n + 1
    · rw [if_pos e2, if_pos (by omega)]
    · rw [if_neg e2, if_neg (by omega)]
theorem wE_0 (M : fM) (a : Nat → Int) : wE M a 0 = M := by
  funext k i j
  unfold wE
  rw [if_neg (by omega)]
theorem wE_T (M : fM) (a : Nat → Int) (n : Nat) (t : Nat → Int) (kf : Int) (C : Nat → Nat → Int) : wE (wW (wT M t kf) C) a n = wW (wT (wE M a n) t kf) C := by
  funext k i j
  simp only [wE, wW, wT]
  grind (splits := 40)
set_option maxHeartbeats 4000000 in
set_option maxRecDepth 100000 in
theorem isLaw_t {g : fG} {M : fM} {w l : Nat} {C : Nat → Nat → Int} {t : Nat → Int} {kf : Int} (hl : l ≤ 11) (ht : ∀ d, d < l → t d = -4 ∨ (0 ≤ t d ∧ t d < 11)) :
    ∀ (n c : Nat), c + n = l → fAt g Y_X7_isLaw 106 [some (vr 22 0), some (vi (l : Int)), some (vi (((2 * w - 1) : Nat) : Int)), some (vi 1), some (vi (c : Int))] [] (wE (wW (wT M t kf) C) (ansT C l (tN t)) c) (fI (fun z M' => z = 1 ∧ M' = (wE (wW (wT M t kf) C) (ansT C l (tN t)) l))) := by
  intro n
  induction n with
  | zero =>
    intro c hm
    refine st_iload dX7_isLaw_106 rfl ?_
    refine st_iload_n dX7_isLaw_108 rfl ?_
    refine st_icmp_ge 138 dX7_isLaw_109 (by decide) (fun h109 => ?_) (fun h109 => ?_)
    · skip
      refine st_iload_n dX7_isLaw_138 rfl ?_
      refine st_zreturn dX7_isLaw_139 rfl (by omega) ⟨_, rfl, ⟨rfl, by rw [show c = l by omega]⟩⟩
    · skip
      exact absurd h109 (by omega)
  | succ n ih =>
    intro c hm
    refine st_iload dX7_isLaw_106 rfl ?_
    refine st_iload_n dX7_isLaw_108 rfl ?_
    refine st_icmp_ge 138 dX7_isLaw_109 (by decide) (fun h109 => ?_) (fun h109 => ?_)
    · skip
      exact absurd h109 (by omega)
    · skip
      refine st_iload_n dX7_isLaw_112 rfl ?_
      refine st_if_eq 138 dX7_isLaw_113 (by decide) (fun h113 => ?_) (fun h113 => ?_)
      · skip
        exact absurd h113 (by decide)
      · skip
        refine st_aload_n dX7_isLaw_116 rfl ?_
        refine st_getr (i' := 0) dX7_isLaw_117 fl_X7_28 rfl rfl rfl (fun _ => by decide) ?_
        refine st_iload dX7_isLaw_120 rfl ?_
        refine st_iconst dX7_isLaw_122 (by decide) ?_
        refine st_iadd dX7_isLaw_123 (by omega) ?_
        refine st_aload_n dX7_isLaw_124 rfl ?_
        refine st_iload dX7_isLaw_125 rfl ?_
        refine st_iload_n dX7_isLaw_127 rfl ?_
        refine fAt_m (wE_T M (ansT C l (tN t)) c t kf C) ?_
        refine st_callVi [vi (c : Int), vi (l : Int)] [vi ((c : Int) + 1), vr 29 0] dX7_isLaw_128 vl_X7_188 rfl rfl rfl rfl (Nat.le_of_ble_eq_true rfl) (by decide) (m_least (M := wE M (ansT C l (tN t)) c) (C := C) (t := t) (kf := kf) (c := c) (u := l) (by omega) (by omega) (ht c (by omega))) (fun z Ml ql => ?_)
        obtain ⟨rfl, q⟩ := ql
        subst Ml
        refine fAt_m (wE_T M (ansT C l (tN t)) c t kf C).symm ?_
        refine st_iast (j := (c + 1)) dX7_isLaw_131 rfl rfl rfl (by omega) (by omega) ?_
        refine fAt_m (wE_s _ _ _) ?_
        refine st_iinc (ls' := [some (vr 22 0), some (vi (l : Int)), some (vi (((2 * w - 1) : Nat) : Int)), some (vi 1), some (vi ((c : Int) + 1))]) dX7_isLaw_132 rfl (by omega) (by decide) rfl rfl ?_
        refine st_goto 106 dX7_isLaw_135 (by decide) ?_
        exact ih (c + 1) (by omega)
set_option maxHeartbeats 4000000 in
set_option maxRecDepth 100000 in
theorem isLaw_o {g : fG} {M : fM} {w : Nat} {p : Int} (hn : nOk M w p) {l : Nat} (hl : l ≤ 2 * w - 1) {C : Nat → Nat → Int} :
    ∀ (n r : Nat), r + n = 2 * w - 1 - l → fAt g Y_X7_isLaw 7 [some (vr 22 0), some (vi (l : Int)), some (vi (((2 * w - 1) : Nat) : Int)), some (vi (r : Int)), none] [] (wW M (lwB C (lL M) l r 0)) (fI (fun z M' => ∃ a kk, ((z = 1 ∧ LSpec p (2 * w - 1 - l) l (lwA (lL M) l) True kk a ∧ ∀ c, c < l → M' 29 0 (c + 1) = a c) ∨ (z = 0 ∧ LSpec p (2 * w - 1 - l) l (lwA (lL M) l) False kk a)) ∧ mS M M')) := by
  have hw1 := hn.2.2.2.1
  have hp2 := hn.2.2.1.1
  intro n
  induction n with
  | zero =>
    intro r hm
    refine st_iload_n dX7_isLaw_7 rfl ?_
    refine st_iload_n dX7_isLaw_8 rfl ?_
    refine st_iload_n dX7_isLaw_9 rfl ?_
    refine st_isub dX7_isLaw_10 (by omega) ?_
    refine st_icmp_ge 94 dX7_isLaw_11 (by decide) (fun h11 => ?_) (fun h11 => ?_)
    · skip
      have er : r = 2 * w - 1 - l := by omega
      subst r
      have hA : ∀ i j, i < 2 * w - 1 - l → j ≤ l → lwB C (lL M) l (2 * w - 1 - l) 0 i j = lwA (lL M) l i j := by
        intro i j hi hj
        unfold lwB lwZ
        rw [if_pos hi, if_pos hj]
      have hrg : rg p (2 * w - 1 - l) (lwB C (lL M) l (2 * w - 1 - l) 0) := by
        intro i j hi hj
        unfold lwB lwZ lwA
        rw [if_pos hi]
        split
        · split
          · exact hn.2.2.2.2.2.1 _ (by omega)
          · exact hn.2.2.2.2.2.1 _ (by omega)
        · omega
      refine st_aload_n dX7_isLaw_94 rfl ?_
      refine st_iload_n dX7_isLaw_95 rfl ?_
      refine st_iload_n dX7_isLaw_96 rfl ?_
      refine st_isub dX7_isLaw_97 (by omega) ?_
      refine st_iload_n dX7_isLaw_98 rfl ?_
      refine fAt_v2 (x' := ((2 * w - 1 - l : Nat) : Int)) (by omega) ?_
      refine st_callVi [vi (((2 * w - 1 - l) : Nat) : Int), vi (l : Int)] [] dX7_isLaw_99 vl_X7_93 rfl rfl rfl rfl (Nat.le_of_ble_eq_true rfl) (by decide) (m_worksOut (R := 2 * w - 1 - l) (u := l) hn (by omega) (by omega) hrg) (fun z Mo qo => ?_)
      obtain ⟨C3, t3, k3, rfl, hE, ht, hr3, hz⟩ := qo
      have hsp := El_spec hp2.1 hE
      rcases hz with ⟨rfl, h2⟩ | ⟨rfl, h2⟩
      · skip
        refine st_istore_n (ls' := [some (vr 22 0), some (vi (l : Int)), some (vi (((2 * w - 1) : Nat) : Int)), some (vi 1), none]) dX7_isLaw_102 (by decide) rfl rfl ?_
        refine st_iconst dX7_isLaw_103 (by decide) ?_
        refine st_istore (ls' := [some (vr 22 0), some (vi (l : Int)), some (vi (((2 * w - 1) : Nat) : Int)), some (vi 1), some (vi 0)]) dX7_isLaw_104 (by decide) rfl rfl ?_
        refine fAt_m (wE_0 _ (ansT C3 l (tN t3))).symm ?_
        refine fAt_q (fun r M' h => ?_) (isLaw_t (by omega) (El_t (by omega) hE ht) l 0 (by omega))
        obtain ⟨z, e, h1, h3⟩ := h
        subst h3
        refine ⟨z, e, ansT C3 l (tN t3), k3, Or.inl ⟨h1, LSpec_congr hA (LSpec_ok ⟨fun _ => trivial, fun _ => h2⟩ hsp), fun c hc => ?_⟩, fun k a b q1 q2 q3 q4 q5 q6 q7 => ?_⟩
        · unfold wE
          rw [if_pos ⟨rfl, rfl, by omega, by omega⟩, Nat.add_sub_cancel]
        · unfold wE
          rw [if_neg (fun h => q4 h.1)]
          exact mS_T k a b q1 q2 q3 q4 q5 q6 q7
      · skip
        refine st_istore_n (ls' := [some (vr 22 0), some (vi (l : Int)), some (vi (((2 * w - 1) : Nat) : Int)), some (vi 0), none]) dX7_isLaw_102 (by decide) rfl rfl ?_
        refine st_iconst dX7_isLaw_103 (by decide) ?_
        refine st_istore (ls' := [some (vr 22 0), some (vi (l : Int)), some (vi (((2 * w - 1) : Nat) : Int)), some (vi 0), some (vi 0)]) dX7_isLaw_104 (by decide) rfl rfl ?_
        refine st_iload dX7_isLaw_106 rfl ?_
        refine st_iload_n dX7_isLaw_108 rfl ?_
        refine st_icmp_ge 138 dX7_isLaw_109 (by decide) (fun h109 => ?_) (fun h109 => ?_)
        · skip
          refine st_iload_n dX7_isLaw_138 rfl ?_
          refine st_zreturn dX7_isLaw_139 rfl (by omega) ⟨_, rfl, ⟨ansT C3 l (tN t3), k3, Or.inr ⟨rfl, LSpec_congr hA (LSpec_ok ⟨fun q => absurd q h2, fun q => q.elim⟩ hsp)⟩, mS_T⟩⟩
        · skip
          refine st_iload_n dX7_isLaw_112 rfl ?_
          refine st_if_eq 138 dX7_isLaw_113 (by decide) (fun h113 => ?_) (fun h113 => ?_)
          · skip
            refine st_iload_n dX7_isLaw_138 rfl ?_
            refine st_zreturn dX7_isLaw_139 rfl (by omega) ⟨_, rfl, ⟨ansT C3 l (tN t3), k3, Or.inr ⟨rfl, LSpec_congr hA (LSpec_ok ⟨fun q => absurd q h2, fun q => q.elim⟩ hsp)⟩, mS_T⟩⟩
          · skip
            exact absurd rfl h113
    · skip
      exact absurd h11 (by omega)
  | succ n ih =>
    intro r hm
    refine st_iload_n dX7_isLaw_7 rfl ?_
    refine st_iload_n dX7_isLaw_8 rfl ?_
    refine st_iload_n dX7_isLaw_9 rfl ?_
    refine st_isub dX7_isLaw_10 (by omega) ?_
    refine st_icmp_ge 94 dX7_isLaw_11 (by decide) (fun h11 => ?_) (fun h11 => ?_)
    · skip
      exact absurd h11 (by omega)
    · skip
      refine st_iconst dX7_isLaw_14 (by decide) ?_
      refine st_istore (ls' := [some (vr 22 0), some (vi (l : Int)), some (vi (((2 * w - 1) : Nat) : Int)), some (vi (r : Int)), some (vi 0)]) dX7_isLaw_15 (by decide) rfl rfl ?_
      exact isLaw_i hn hl (by omega) (ih (r + 1) (by omega)) 13 0 (by omega)
set_option maxHeartbeats 4000000 in
set_option maxRecDepth 100000 in
theorem m_isLaw {g : fG} {M : fM} {w : Nat} {p : Int} (hn : nOk M w p) {l : Nat} (hl : l ≤ 2 * w - 1) :
    fCi g Y_X7_isLaw [vr 22 0, vi (l : Int)] M (fun z M' => ∃ a kk, ((z = 1 ∧ LSpec p (2 * w - 1 - l) l (lwA (lL M) l) True kk a ∧ ∀ c, c < l → M' 29 0 (c + 1) = a c) ∨ (z = 0 ∧ LSpec p (2 * w - 1 - l) l (lwA (lL M) l) False kk a)) ∧ mS M M') := by
  have hw1 := hn.2.2.2.1
  have hp2 := hn.2.2.1.1
  refine fCi_of _ [some (vr 22 0), some (vi (l : Int)), none, none, none] (by decide) (Nat.le_of_ble_eq_true rfl) rfl (fun h => h) ?_
  refine st_aload_n dX7_isLaw_0 rfl ?_
  refine st_callVi [] [] dX7_isLaw_1 vl_X7_61 rfl rfl rfl rfl (Nat.le_of_ble_eq_true rfl) (by decide) (m_lines hn.1 hn.2.2.2.1) (fun zl Ml ql => ?_)
  obtain ⟨rfl, rfl⟩ := ql
  refine st_istore_n (ls' := [some (vr 22 0), some (vi (l : Int)), some (vi (((2 * w - 1) : Nat) : Int)), none, none]) dX7_isLaw_4 (by decide) rfl rfl ?_
  refine st_iconst dX7_isLaw_5 (by decide) ?_
  refine st_istore_n (ls' := [some (vr 22 0), some (vi (l : Int)), some (vi (((2 * w - 1) : Nat) : Int)), some (vi 0), none]) dX7_isLaw_6 (by decide) rfl rfl ?_
  refine fAt_m (wW_self Ml).symm ?_
  refine fAt_m (congrArg (wW Ml) (lwB_0 _ (lL Ml) l).symm) ?_
  exact isLaw_o hn hl (2 * w - 1 - l) 0 (by omega)
set_option maxHeartbeats 4000000 in
set_option maxRecDepth 100000 in
theorem law_l {g : fG} {M : fM} {w : Nat} {p : Int} (hn : nOk M w p) :
    ∀ (n m : Nat) (Nn : fM), m + n = 2 * w - 1 → (∀ q, q < m → ¬ ∃ x, Ev 1 p (2 * w - 1 - q) q (lwA (lL M) q) x) → mS M Nn → fAt g Y_X7_law 2 [some (vr 22 0), some (vi (m : Int))] [] Nn (fI (fun z M' => ∃ (l : Nat) (a : Nat → Int), z = (l : Int) ∧ LawS p (lL M) (2 * w - 1) l a ∧ (∀ c, c < l → M' 29 0 (c + 1) = a c) ∧ mS M M')) := by
  have hw1 := hn.2.2.2.1
  have hp2 := hn.2.2.1.1
  intro n
  induction n with
  | zero =>
    intro m Nn hm hno hS
    refine st_aload_n dX7_law_2 rfl ?_
    refine st_iload_n dX7_law_3 rfl ?_
    refine st_callVi [vi (m : Int)] [] dX7_law_4 vl_X7_194 rfl rfl rfl rfl (Nat.le_of_ble_eq_true rfl) (by decide) (m_isLaw (l := m) (nOk_S hn hS) (by omega)) (fun z M1 q1 => ?_)
    have eL : lL Nn = lL M := funext fun q => mS_n hS (4 + q)
    obtain ⟨a, kk, q1, hS1⟩ := q1
    rw [eL] at q1
    rcases q1 with ⟨rfl, hL, hT⟩ | ⟨rfl, hL⟩
    · skip
      refine st_if_ne 16 dX7_law_7 (by decide) (fun h7 => ?_) (fun h7 => ?_)
      · skip
        refine st_iload_n dX7_law_16 rfl ?_
        refine st_ireturn dX7_law_17 rfl ⟨_, rfl, ⟨m, a, rfl, ⟨by omega, hno, hL.2.2 trivial⟩, hT, mS_t hS hS1⟩⟩
      · skip
        exact absurd h7 (by omega)
    · skip
      exact absurd (hL.2.1.mpr ⟨fun _ => 0, fun r hr => absurd hr (by omega)⟩) id
  | succ n ih =>
    intro m Nn hm hno hS
    refine st_aload_n dX7_law_2 rfl ?_
    refine st_iload_n dX7_law_3 rfl ?_
    refine st_callVi [vi (m : Int)] [] dX7_law_4 vl_X7_194 rfl rfl rfl rfl (Nat.le_of_ble_eq_true rfl) (by decide) (m_isLaw (l := m) (nOk_S hn hS) (by omega)) (fun z M1 q1 => ?_)
    have eL : lL Nn = lL M := funext fun q => mS_n hS (4 + q)
    obtain ⟨a, kk, q1, hS1⟩ := q1
    rw [eL] at q1
    rcases q1 with ⟨rfl, hL, hT⟩ | ⟨rfl, hL⟩
    · skip
      refine st_if_ne 16 dX7_law_7 (by decide) (fun h7 => ?_) (fun h7 => ?_)
      · skip
        refine st_iload_n dX7_law_16 rfl ?_
        refine st_ireturn dX7_law_17 rfl ⟨_, rfl, ⟨m, a, rfl, ⟨by omega, hno, hL.2.2 trivial⟩, hT, mS_t hS hS1⟩⟩
      · skip
        exact absurd h7 (by omega)
    · skip
      refine st_if_ne 16 dX7_law_7 (by decide) (fun h7 => ?_) (fun h7 => ?_)
      · skip
        exact absurd rfl h7
      · skip
        refine st_iinc (ls' := [some (vr 22 0), some (vi ((m : Int) + 1))]) dX7_law_10 rfl (by omega) (by decide) rfl rfl ?_
        refine st_goto 2 dX7_law_13 (by decide) ?_
        exact ih (m + 1) M1 (by omega) (fun q hq => by
          by_cases e : q = m
          · rw [e]; exact fun hex => (hL.2.1.mpr hex).elim
          · exact hno q (by omega)) (mS_t hS hS1)
set_option maxHeartbeats 4000000 in
set_option maxRecDepth 100000 in
theorem m_law {g : fG} {M : fM} {w : Nat} {p : Int} (hn : nOk M w p) :
    fCi g Y_X7_law [vr 22 0] M (fun z M' => ∃ (l : Nat) (a : Nat → Int), z = (l : Int) ∧ LawS p (lL M) (2 * w - 1) l a ∧ (∀ c, c < l → M' 29 0 (c + 1) = a c) ∧ mS M M') := by
  have hw1 := hn.2.2.2.1
  have hp2 := hn.2.2.1.1
  refine fCi_of _ [some (vr 22 0), none] (by decide) (Nat.le_of_ble_eq_true rfl) rfl (fun h => h) ?_
  refine st_iconst dX7_law_0 (by decide) ?_
  refine st_istore_n (ls' := [some (vr 22 0), some (vi 0)]) dX7_law_1 (by decide) rfl rfl ?_
  exact law_l hn (2 * w - 1) 0 M (by omega) (fun q hq => absurd hq (by omega)) (mS_r M)
