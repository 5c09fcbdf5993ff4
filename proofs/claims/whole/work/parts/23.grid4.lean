/-- the grid's answers replaced -/
def wA (M : fM) (a : Nat → Int) : fM := fun k i j => if k = 11 ∧ i = 0 then a j else M k i j
theorem wA_up (M : fM) (a : Nat → Int) (C : Nat → Nat → Int) (j : Nat) (v : Int) : fup (wC (wA M a) C) 11 0 j v = wC (wA M (fun q => if q = j then v else a q)) C := by
  funext k i q
  unfold fup wC wA
  by_cases e : k = 10
  · subst e; rw [if_neg (by omega), if_pos rfl, if_pos rfl]
  · rw [if_neg e, if_neg e]
    show (if k = 11 ∧ i = 0 ∧ q = j then v else if k = 11 ∧ i = 0 then a q else M k i q) = if k = 11 ∧ i = 0 then (if q = j then v else a q) else M k i q
    by_cases e2 : k = 11 ∧ i = 0
    · rw [if_pos e2, if_pos e2]
      by_cases e3 : q = j
      · rw [if_pos ⟨e2.1, e2.2, e3⟩, if_pos e3]
      · rw [if_neg (fun h => e3 h.2.2), if_neg e3]
    · rw [if_neg e2, if_neg e2, if_neg (fun h => e2 ⟨h.1, h.2.1⟩)]
theorem wA_self (M : fM) : wA M (M 11 0) = M := by
  funext k i j
  unfold wA
  by_cases e : k = 11 ∧ i = 0
  · rw [if_pos e, e.1, e.2]
  · rw [if_neg e]
theorem wA_at (M : fM) (a : Nat → Int) (C : Nat → Nat → Int) (j : Nat) : wC (wA M a) C 11 0 j = a j := by
  unfold wC wA
  rw [if_neg (by decide), if_pos ⟨rfl, rfl⟩]
theorem gOk_A {p : Int} {M : fM} {a : Nat → Int} (h : gOk p M) : gOk p (wA M a) := ⟨h.1, h.2.1, fun a h1 h2 => h.2.2 a h1 h2⟩
def tO (a : Nat → Int) (d : Nat) : Option Nat := if a d < 0 then none else some (a d).toNat
theorem tO_n {a : Nat → Int} {d : Nat} (h : a d < 0) : tO a d = none := by unfold tO; rw [if_pos h]
theorem tO_s {a : Nat → Int} {d k : Nat} (h : a d = (k : Int)) : tO a d = some k := by unfold tO; rw [if_neg (by omega), h]; rfl
theorem tO_e {a b : Nat → Int} {d : Nat} (h : a d = b d) : tO a d = tO b d := by unfold tO; rw [h]
set_option maxHeartbeats 4000000 in
set_option maxRecDepth 100000 in
theorem solveLeast_3 {g : fG} {M : fM} {p : Int} {A C : Nat → Nat → Int} {R u k : Nat} {a0 : Nat → Int} (hg : gOk p M) (hu : u ≤ 11) (hR : R ≤ 11) (hE : El p R u A 0 C k (tO a0)) (hok : ∀ r, k ≤ r → r < R → C r u = 0) :
    ∀ (n c : Nat) (a : Nat → Int), c + n = u → (∀ d, d < c → a d = ansT C u (tO a0) d) → (∀ d, c ≤ d → d < u → a d = a0 d) → fAt g Y_X1_solveLeast 92 [some (vr 8 0), some (vi (R : Int)), some (vi (u : Int)), some (vi (k : Int)), some (vi (c : Int))] [] (wC (wA M a) C) (fI (fun z M' => ∃ C' a' k, M' = wC (wA M a') C' ∧ ((z = -1 ∧ LSpec p R u A False k a') ∨ (z = ((k : Nat) : Int) ∧ LSpec p R u A True k a')))) := by
  have hp2 := hg.2.1
  intro n
  induction n with
  | zero =>
    intro c a hn ha1 ha2
    have e : c = u := by omega
    subst e
    refine st_iload dX1_solveLeast_92 rfl ?_
    refine st_iload_n dX1_solveLeast_94 rfl ?_
    refine st_icmp_ge 139 dX1_solveLeast_95 (by decide) (fun h95 => ?_) (fun h95 => ?_)
    · skip
      refine st_iload_n dX1_solveLeast_139 rfl ?_
      refine st_ireturn dX1_solveLeast_140 rfl ⟨_, rfl, ⟨C, a, k, rfl, Or.inr ⟨rfl, LSpec_ans (fun d hd => (ha1 d hd).symm) (LSpec_ok ⟨fun _ => trivial, fun _ => hok⟩ (El_spec (by omega) hE))⟩⟩⟩
    · skip
      exact absurd h95 (by omega)
  | succ n ih =>
    intro c a hn ha1 ha2
    refine st_iload dX1_solveLeast_92 rfl ?_
    refine st_iload_n dX1_solveLeast_94 rfl ?_
    refine st_icmp_ge 139 dX1_solveLeast_95 (by decide) (fun h95 => ?_) (fun h95 => ?_)
    · skip
      exact absurd h95 (by omega)
    · skip
      refine st_aload_n dX1_solveLeast_98 rfl ?_
      refine st_getr (i' := 0) dX1_solveLeast_99 fl_X1_16 rfl rfl rfl (fun _ => by decide) ?_
      refine st_iload dX1_solveLeast_102 rfl ?_
      refine st_aload_n dX1_solveLeast_104 rfl ?_
      refine st_getr (i' := 0) dX1_solveLeast_105 fl_X1_16 rfl rfl rfl (fun _ => by decide) ?_
      refine st_iload dX1_solveLeast_108 rfl ?_
      refine st_iald (j := c) dX1_solveLeast_110 rfl rfl rfl rfl (by omega) ?_
      refine fAt_v (x' := a0 c) (by rw [wA_at]; exact ha2 c (Nat.le_refl c) (by omega)) ?_
      refine st_if_ge 118 dX1_solveLeast_111 (by decide) (fun h111 => ?_) (fun h111 => ?_)
      · skip
        have hnat' : a0 c = (((a0 c).toNat : Nat) : Int) := (Int.toNat_of_nonneg h111).symm
        have htl := (hE.2.2.2.1 c (Nat.zero_le _) (by omega) (a0 c).toNat (tO_s hnat')).1
        have hkR := hE.2.2.1
        refine st_aload_n dX1_solveLeast_118 rfl ?_
        refine st_getr (i' := 0) dX1_solveLeast_119 fl_X1_11 rfl rfl rfl (fun _ => by decide) ?_
        refine st_aload_n dX1_solveLeast_122 rfl ?_
        refine st_getr (i' := 0) dX1_solveLeast_123 fl_X1_16 rfl rfl rfl (fun _ => by decide) ?_
        refine st_iload dX1_solveLeast_126 rfl ?_
        refine st_iald (j := c) dX1_solveLeast_128 rfl rfl rfl rfl (by omega) ?_
        refine fAt_v (x' := a0 c) (by rw [wA_at]; exact ha2 c (Nat.le_refl c) (by omega)) ?_
        refine st_aald (j := (a0 c).toNat) (i' := (a0 c).toNat) dX1_solveLeast_129 rfl rfl rfl rfl ⟨_, rfl, rfl⟩ hnat' (show (a0 c).toNat < 11 from by omega) rfl (fun _ => show (a0 c).toNat < 11 from by omega) ?_
        refine st_iload_n dX1_solveLeast_130 rfl ?_
        refine st_iald (j := u) dX1_solveLeast_131 rfl rfl rfl rfl (by omega) ?_
        refine fAt_v (x' := C (a0 c).toNat u) rfl ?_
        refine st_iast (j := c) dX1_solveLeast_132 rfl rfl rfl rfl (by omega) ?_
        refine fAt_m (wA_up _ _ _ _ _) ?_
        refine st_iinc (ls' := [some (vr 8 0), some (vi (R : Int)), some (vi (u : Int)), some (vi (k : Int)), some (vi ((c : Int) + 1))]) dX1_solveLeast_133 rfl (by omega) (by decide) rfl rfl ?_
        refine st_goto 92 dX1_solveLeast_136 (by decide) ?_
        refine ih (c + 1) _ (by omega) ?_ ?_
        · intro d hd
          by_cases e : d = c
          · rw [if_pos e, e]; unfold ansT; first | (rw [tO_n h111']; done) | rw [tO_s hnat']
          · rw [if_neg e]; exact ha1 d (by omega)
        · intro d h1 h2
          rw [if_neg (by omega)]; exact ha2 d (by omega) h2
      · skip
        have h111' : a0 c < 0 := h111
        refine st_iconst dX1_solveLeast_114 (by decide) ?_
        refine st_goto 132 dX1_solveLeast_115 (by decide) ?_
        refine st_iast (j := c) dX1_solveLeast_132 rfl rfl rfl rfl (by omega) ?_
        refine fAt_m (wA_up _ _ _ _ _) ?_
        refine st_iinc (ls' := [some (vr 8 0), some (vi (R : Int)), some (vi (u : Int)), some (vi (k : Int)), some (vi ((c : Int) + 1))]) dX1_solveLeast_133 rfl (by omega) (by decide) rfl rfl ?_
        refine st_goto 92 dX1_solveLeast_136 (by decide) ?_
        refine ih (c + 1) _ (by omega) ?_ ?_
        · intro d hd
          by_cases e : d = c
          · rw [if_pos e, e]; unfold ansT; first | (rw [tO_n h111']; done) | rw [tO_s hnat']
          · rw [if_neg e]; exact ha1 d (by omega)
        · intro d h1 h2
          rw [if_neg (by omega)]; exact ha2 d (by omega) h2
theorem LSpec_F {p : Int} {R u : Nat} {C : Nat → Nat → Int} {k : Nat} {a a' : Nat → Int} (h : LSpec p R u C False k a) : LSpec p R u C False k a' := ⟨h.1, h.2.1, fun q => q.elim⟩
set_option maxHeartbeats 4000000 in
set_option maxRecDepth 100000 in
theorem solveLeast_2 {g : fG} {M : fM} {p : Int} {A C : Nat → Nat → Int} {R u k : Nat} {a0 : Nat → Int} (hg : gOk p M) (hu : u ≤ 11) (hR : R ≤ 11) (hE : El p R u A 0 C k (tO a0)) :
    ∀ (n r : Nat), k ≤ r → r + n = R → (∀ q, k ≤ q → q < r → C q u = 0) → fAt g Y_X1_solveLeast 63 [some (vr 8 0), some (vi (R : Int)), some (vi (u : Int)), some (vi (k : Int)), some (vi (r : Int))] [] (wC (wA M a0) C) (fI (fun z M' => ∃ C' a' k, M' = wC (wA M a') C' ∧ ((z = -1 ∧ LSpec p R u A False k a') ∨ (z = ((k : Nat) : Int) ∧ LSpec p R u A True k a')))) := by
  have hp2 := hg.2.1
  intro n
  induction n with
  | zero =>
    intro r hkr hn h0
    have e : r = R := by omega
    subst e
    refine st_iload dX1_solveLeast_63 rfl ?_
    refine st_iload_n dX1_solveLeast_65 rfl ?_
    refine st_icmp_ge 89 dX1_solveLeast_66 (by decide) (fun h66 => ?_) (fun h66 => ?_)
    · skip
      refine st_iconst dX1_solveLeast_89 (by decide) ?_
      refine st_istore (ls' := [some (vr 8 0), some (vi (r : Int)), some (vi (u : Int)), some (vi (k : Int)), some (vi 0)]) dX1_solveLeast_90 (by decide) rfl rfl ?_
      exact solveLeast_3 hg hu hR hE (fun r h1 h2 => h0 r h1 h2) u 0 a0 (by omega) (fun d hd => absurd hd (by omega)) (fun d _ _ => rfl)
    · skip
      exact absurd h66 (by omega)
  | succ n ih =>
    intro r hkr hn h0
    refine st_iload dX1_solveLeast_63 rfl ?_
    refine st_iload_n dX1_solveLeast_65 rfl ?_
    refine st_icmp_ge 89 dX1_solveLeast_66 (by decide) (fun h66 => ?_) (fun h66 => ?_)
    · skip
      exact absurd h66 (by omega)
    · skip
      refine st_aload_n dX1_solveLeast_69 rfl ?_
      refine st_getr (i' := 0) dX1_solveLeast_70 fl_X1_11 rfl rfl rfl (fun _ => by decide) ?_
      refine st_iload dX1_solveLeast_73 rfl ?_
      refine st_aald (j := r) (i' := r) dX1_solveLeast_75 rfl rfl rfl rfl ⟨_, rfl, rfl⟩ rfl (show r < 11 from by omega) rfl (fun _ => show r < 11 from by omega) ?_
      refine st_iload_n dX1_solveLeast_76 rfl ?_
      refine st_iald (j := u) dX1_solveLeast_77 rfl rfl rfl rfl (by omega) ?_
      refine fAt_v (x' := C r u) rfl ?_
      refine st_if_eq 83 dX1_solveLeast_78 (by decide) (fun h78 => ?_) (fun h78 => ?_)
      · skip
        refine st_iinc (ls' := [some (vr 8 0), some (vi (R : Int)), some (vi (u : Int)), some (vi (k : Int)), some (vi ((r : Int) + 1))]) dX1_solveLeast_83 rfl (by omega) (by decide) rfl rfl ?_
        refine st_goto 63 dX1_solveLeast_86 (by decide) ?_
        exact ih (r + 1) (by omega) (by omega) (lt_sN h0 h78)
      · skip
        refine st_iconst dX1_solveLeast_81 (by decide) ?_
        refine st_ireturn dX1_solveLeast_82 rfl ⟨_, rfl, ⟨C, a0, k, rfl, Or.inl ⟨rfl, LSpec_F (LSpec_ok ⟨fun h => h78 (h r (by omega) (by omega)), fun h => h.elim⟩ (El_spec (by omega) hE))⟩⟩⟩
set_option maxHeartbeats 4000000 in
set_option maxRecDepth 100000 in
theorem solveLeast_1 {g : fG} {M : fM} {p : Int} {A : Nat → Nat → Int} {R u : Nat} (hg : gOk p M) (hu : u ≤ 11) (hR : R ≤ 11) :
    ∀ (m k : Nat) (x : Int) (a : Nat → Int) (C : Nat → Nat → Int), x = (m : Int) - 1 → m ≤ u → El p R u A m C k (tO a) → fAt g Y_X1_solveLeast 7 [some (vr 8 0), some (vi (R : Int)), some (vi (u : Int)), some (vi (k : Int)), some (vi x)] [] (wC (wA M a) C) (fI (fun z M' => ∃ C' a' k, M' = wC (wA M a') C' ∧ ((z = -1 ∧ LSpec p R u A False k a') ∨ (z = ((k : Nat) : Int) ∧ LSpec p R u A True k a')))) := by
  have hp2 := hg.2.1
  intro m
  induction m with
  | zero =>
    intro k x a C hx hm hE
    refine st_iload dX1_solveLeast_7 rfl ?_
    refine st_if_lt 60 dX1_solveLeast_9 (by decide) (fun h9 => ?_) (fun h9 => ?_)
    · skip
      refine st_iload_n dX1_solveLeast_60 rfl ?_
      refine st_istore (ls' := [some (vr 8 0), some (vi (R : Int)), some (vi (u : Int)), some (vi (k : Int)), some (vi (k : Int))]) dX1_solveLeast_61 (by decide) rfl rfl ?_
      exact solveLeast_2 hg hu hR hE (R - k) k (Nat.le_refl k) (by have := hE.2.2.1; omega) (fun q h1 h2 => absurd h2 (by omega))
    · skip
      exact absurd h9 (by omega)
  | succ m ih =>
    intro k x a C hx hm hE
    have e : x = (m : Int) := by omega
    subst e
    have hkR := hE.2.2.1
    refine st_iload dX1_solveLeast_7 rfl ?_
    refine st_if_lt 60 dX1_solveLeast_9 (by decide) (fun h9 => ?_) (fun h9 => ?_)
    · skip
      exact absurd h9 (by omega)
    · skip
      refine st_aload_n dX1_solveLeast_12 rfl ?_
      refine st_getr (i' := 0) dX1_solveLeast_13 fl_X1_16 rfl rfl rfl (fun _ => by decide) ?_
      refine st_iload dX1_solveLeast_16 rfl ?_
      refine st_iconst dX1_solveLeast_18 (by decide) ?_
      refine st_iast (j := m) dX1_solveLeast_19 rfl rfl rfl rfl (by omega) ?_
      refine fAt_m (wA_up _ _ _ _ _) ?_
      refine st_aload_n dX1_solveLeast_20 rfl ?_
      refine st_iload dX1_solveLeast_21 rfl ?_
      refine st_iload_n dX1_solveLeast_23 rfl ?_
      refine st_iload_n dX1_solveLeast_24 rfl ?_
      refine st_iload_n dX1_solveLeast_25 rfl ?_
      refine st_iconst dX1_solveLeast_26 (by decide) ?_
      refine st_iadd dX1_solveLeast_27 (by omega) ?_
      refine st_callVi [vi (m : Int), vi (k : Int), vi (R : Int), vi ((u : Int) + 1)] [] dX1_solveLeast_28 vl_X1_40 rfl rfl rfl rfl (Nat.le_of_ble_eq_true rfl) (by decide) (c_findPivot (col := m) (row := k) (cols := u + 1) (gOk_A hg) (by omega) (by omega) (by omega) (fun i j hi hj => hE.1 i j hi hj) hE.2.2.1) (fun z M1 q28 => ?_)
      rcases q28 with ⟨rfl, rfl, h0⟩ | ⟨rfl, r, hr1, hr2, hr3, hr4, rfl⟩
      · skip
        have hE2 : El p R u A m C k (tO (fun q => if q = m then -1 else a q)) := El_none (by omega) hE h0 (tO_n (by show (if m = m then (-1 : Int) else a m) < 0; rw [if_pos rfl]; decide)) (fun d h1 h2 => tO_e (by show (if d = m then (-1 : Int) else a d) = a d; rw [if_neg (by omega)]))
        refine st_if_eq 54 dX1_solveLeast_31 (by decide) (fun h31 => ?_) (fun h31 => ?_)
        · skip
          refine st_iinc (ls' := [some (vr 8 0), some (vi (R : Int)), some (vi (u : Int)), some (vi (k : Int)), some (vi ((m : Int) + (-1)))]) dX1_solveLeast_54 rfl (by omega) (by decide) rfl rfl ?_
          refine st_goto 7 dX1_solveLeast_57 (by decide) ?_
          exact ih _ _ _ _ (by omega) (by omega) hE2
        · skip
          exact absurd rfl h31
      · skip
        have hR1 : ∀ i j, i < R → j < u + 1 → 0 ≤ (if r = k then C else rTk p C k r (p - 1) 0 (u + 1)) i j ∧ (if r = k then C else rTk p C k r (p - 1) 0 (u + 1)) i j < p := by
          split
          · exact hE.1
          · exact rTk_rng (by omega) hE.1
        have hV1 : ∀ β y, Ev β p R u (if r = k then C else rTk p C k r (p - 1) 0 (u + 1)) y ↔ Ev β p R u C y := by
          split
          · exact fun _ _ => Iff.rfl
          · exact fun β y => Ev_tk (by omega) (by omega) (by omega) y
        have hZ1 : ∀ i d, i < R → m < d → d < u → (if r = k then C else rTk p C k r (p - 1) 0 (u + 1)) i d = C i d := by
          split
          · exact fun _ _ _ _ _ => rfl
          · intro i d hi h1 h2
            by_cases e : i = k
            · rw [e, rTk_at (Nat.zero_le _) (by omega), hE.2.2.2.2.2.1 k (Nat.le_refl k) (by omega) d (by omega) h2, hE.2.2.2.2.2.1 r hr1 hr2 d (by omega) h2, Int.mul_zero]
              exact Int.zero_emod p
            · exact rTk_ne (fun q => e q.1)
        have hnz : (if r = k then C else rTk p C k r (p - 1) 0 (u + 1)) k m ≠ 0 := by
          split
          · rename_i e; rw [e] at hr3; exact hr3
          · have hrc := hE.1 r m (by omega) (by omega)
            rw [rTk_at (Nat.zero_le _) (by omega), hr4 k (Nat.le_refl k) (by omega), show p - (p - 1) = 1 by omega, Int.one_mul, Int.zero_add, Int.emod_eq_of_lt hrc.1 hrc.2]
            exact hr3
        generalize (if r = k then C else rTk p C k r (p - 1) 0 (u + 1)) = C1 at hR1 hV1 hZ1 hnz ⊢
        refine st_if_eq 54 dX1_solveLeast_31 (by decide) (fun h31 => ?_) (fun h31 => ?_)
        · skip
          exact absurd h31 (by omega)
        · skip
          refine st_aload_n dX1_solveLeast_34 rfl ?_
          refine st_iload_n dX1_solveLeast_35 rfl ?_
          refine st_iload dX1_solveLeast_36 rfl ?_
          refine st_iload_n dX1_solveLeast_38 rfl ?_
          refine st_iload_n dX1_solveLeast_39 rfl ?_
          refine st_callVv [vi (k : Int), vi (m : Int), vi (R : Int), vi (u : Int)] [] dX1_solveLeast_40 vl_X1_48 rfl rfl rfl rfl (Nat.le_of_ble_eq_true rfl) (by decide) (c_clearOthers (gOk_A hg) hu hR (by omega) (by omega) hR1 hnz) (fun M40 q40 => ?_)
          obtain ⟨D, rfl, hD, hD0⟩ := q40
          have hE2 : El p R u A m D (k + 1) (tO (fun q => if q = m then (k : Int) else if q = m then -1 else a q)) := by
            refine El_some (by omega) hE (by omega) hD.1 (fun β y => (hD.2.1 β y).trans (hV1 β y)) hD.2.2.1 hD0 (fun i d hi h1 h2 => ?_) (tO_s (by show (if m = m then (k : Int) else _) = _; rw [if_pos rfl])) (fun d h1 h2 => tO_e (by show (if d = m then (k : Int) else if d = m then -1 else a d) = a d; rw [if_neg (by omega), if_neg (by omega)]))
            rw [hD.2.2.2 i d hi (by omega) (by rw [hZ1 k d (by omega) h1 h2]; exact hE.2.2.2.2.2.1 k (Nat.le_refl k) (by omega) d (by omega) h2)]
            exact hZ1 i d hi h1 h2
          refine st_aload_n dX1_solveLeast_43 rfl ?_
          refine st_getr (i' := 0) dX1_solveLeast_44 fl_X1_16 rfl rfl rfl (fun _ => by decide) ?_
          refine st_iload dX1_solveLeast_47 rfl ?_
          refine st_iload_n dX1_solveLeast_49 rfl ?_
          refine st_iast (j := m) dX1_solveLeast_50 rfl rfl rfl rfl (by omega) ?_
          refine fAt_m (wA_up _ _ _ _ _) ?_
          refine st_iinc (ls' := [some (vr 8 0), some (vi (R : Int)), some (vi (u : Int)), some (vi ((k : Int) + 1)), some (vi (m : Int))]) dX1_solveLeast_51 rfl (by omega) (by decide) rfl rfl ?_
          refine st_iinc (ls' := [some (vr 8 0), some (vi (R : Int)), some (vi (u : Int)), some (vi ((k : Int) + 1)), some (vi ((m : Int) + (-1)))]) dX1_solveLeast_54 rfl (by omega) (by decide) rfl rfl ?_
          refine st_goto 7 dX1_solveLeast_57 (by decide) ?_
          exact ih _ _ _ _ (by omega) (by omega) hE2
set_option maxHeartbeats 4000000 in
set_option maxRecDepth 100000 in
theorem c_solveLeast {g : fG} {M : fM} {p : Int} {a : Nat → Int} {A : Nat → Nat → Int} {R u : Nat} (hg : gOk p M) (hu : u ≤ 11) (hR : R ≤ 11) (hA : ∀ i j, i < R → j < u + 1 → 0 ≤ A i j ∧ A i j < p) :
    fCi g Y_X1_solveLeast [vr 8 0, vi R, vi u] (wC (wA M a) A) (fun z M' => ∃ C' a' k, M' = wC (wA M a') C' ∧ ((z = -1 ∧ LSpec p R u A False k a') ∨ (z = ((k : Nat) : Int) ∧ LSpec p R u A True k a'))) := by
  have hp2 := hg.2.1
  refine fCi_of _ [some (vr 8 0), some (vi (R : Int)), some (vi (u : Int)), none, none] (by decide) (Nat.le_of_ble_eq_true rfl) rfl (fun h => h) ?_
  refine st_iconst dX1_solveLeast_0 (by decide) ?_
  refine st_istore_n (ls' := [some (vr 8 0), some (vi (R : Int)), some (vi (u : Int)), some (vi 0), none]) dX1_solveLeast_1 (by decide) rfl rfl ?_
  refine st_iload_n dX1_solveLeast_2 rfl ?_
  refine st_iconst dX1_solveLeast_3 (by decide) ?_
  refine st_isub dX1_solveLeast_4 (by omega) ?_
  refine st_istore (ls' := [some (vr 8 0), some (vi (R : Int)), some (vi (u : Int)), some (vi 0), some (vi ((u : Int) - 1))]) dX1_solveLeast_5 (by decide) rfl rfl ?_
  exact solveLeast_1 hg hu hR u 0 _ _ _ (by omega) (Nat.le_refl u) (El_0 hA _)
def zC (C : Nat → Nat → Int) (col n : Nat) : Nat → Nat → Int := fun i j => if i < n ∧ j = col then 0 else C i j
theorem zC_0 (C : Nat → Nat → Int) (col : Nat) : zC C col 0 = C := by
  funext i j
  unfold zC
  rw [if_neg (by omega)]
theorem zC_s (C : Nat → Nat → Int) (col n : Nat) : (fun a b => if a = n ∧ b = col then 0 else zC C col n a b) = zC C col (n + 1) := by
  funext i j
  unfold zC
  by_cases e : i = n ∧ j = col
  · rw [if_pos e, if_pos ⟨by omega, e.2⟩]
  · rw [if_neg e]
    by_cases e2 : i < n ∧ j = col
    · rw [if_pos e2, if_pos ⟨by omega, e2.2⟩]
    · rw [if_neg e2, if_neg (by omega)]
set_option maxHeartbeats 4000000 in
set_option maxRecDepth 100000 in
theorem clearColumn_l {g : fG} {M : fM} {C : Nat → Nat → Int} {col R : Nat} (hc : col < 12) (hR : R ≤ 11) :
    ∀ (n r : Nat), r + n = R → fAt g Y_X1_clearColumn 2 [some (vr 8 0), some (vi (col : Int)), some (vi (R : Int)), some (vi (r : Int))] [] (wC M (zC C col r)) (fN (fun M' => M' = wC M (zC C col R))) := by
  intro n
  induction n with
  | zero =>
    intro r hn
    have e : r = R := by omega
    subst e
    refine st_iload_n dX1_clearColumn_2 rfl ?_
    refine st_iload_n dX1_clearColumn_3 rfl ?_
    refine st_icmp_ge 22 dX1_clearColumn_4 (by decide) (fun h4 => ?_) (fun h4 => ?_)
    · skip
      refine st_return dX1_clearColumn_22 rfl ⟨rfl, rfl⟩
    · skip
      exact absurd h4 (by omega)
  | succ n ih =>
    intro r hn
    refine st_iload_n dX1_clearColumn_2 rfl ?_
    refine st_iload_n dX1_clearColumn_3 rfl ?_
    refine st_icmp_ge 22 dX1_clearColumn_4 (by decide) (fun h4 => ?_) (fun h4 => ?_)
    · skip
      exact absurd h4 (by omega)
    · skip
      refine st_aload_n dX1_clearColumn_7 rfl ?_
      refine st_getr (i' := 0) dX1_clearColumn_8 fl_X1_11 rfl rfl rfl (fun _ => by decide) ?_
      refine st_iload_n dX1_clearColumn_11 rfl ?_
      refine st_aald (j := r) (i' := r) dX1_clearColumn_12 rfl rfl rfl rfl ⟨_, rfl, rfl⟩ rfl (show r < 11 from by omega) rfl (fun _ => show r < 11 from by omega) ?_
      refine st_iload_n dX1_clearColumn_13 rfl ?_
      refine st_iconst dX1_clearColumn_14 (by decide) ?_
      refine st_iast (j := col) dX1_clearColumn_15 rfl rfl rfl rfl (by omega) ?_
      refine fAt_m (wC_up _ _ _ _ _) ?_
      refine fAt_m (congrArg (wC M) (zC_s C col r)) ?_
      refine st_iinc (ls' := [some (vr 8 0), some (vi (col : Int)), some (vi (R : Int)), some (vi ((r : Int) + 1))]) dX1_clearColumn_16 rfl (by omega) (by decide) rfl rfl ?_
      refine st_goto 2 dX1_clearColumn_19 (by decide) ?_
      exact ih (r + 1) (by omega)
set_option maxHeartbeats 4000000 in
set_option maxRecDepth 100000 in
theorem c_clearColumn {g : fG} {M : fM} {C : Nat → Nat → Int} {col R : Nat} (hc : col < 12) (hR : R ≤ 11) :
    fCv g Y_X1_clearColumn [vr 8 0, vi col, vi R] (wC M C) (fun M' => M' = wC M (zC C col R)) := by
  refine fCv_of _ [some (vr 8 0), some (vi (col : Int)), some (vi (R : Int)), none] (by decide) (Nat.le_of_ble_eq_true rfl) rfl (fun h => h) ?_
  refine st_iconst dX1_clearColumn_0 (by decide) ?_
  refine st_istore_n (ls' := [some (vr 8 0), some (vi (col : Int)), some (vi (R : Int)), some (vi 0)]) dX1_clearColumn_1 (by decide) rfl rfl ?_
  refine fAt_m (congrArg (wC M) (zC_0 C col).symm) ?_
  exact clearColumn_l hc hR R 0 (by omega)
