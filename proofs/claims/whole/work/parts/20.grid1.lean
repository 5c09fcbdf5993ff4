/-! ===== Grid ===== -/
def gTk (p : Int) (M : fM) (row other : Nat) (t : Int) (a b : Nat) : fM := fun k i j => if k = 10 ∧ i = row ∧ a ≤ j ∧ j < b then (M 10 row j + (p - t) * M 10 other j) % p else M k i j
theorem gTk_0 (p : Int) (M : fM) (row other : Nat) (t : Int) (a : Nat) : gTk p M row other t a a = M := by
  funext k i j
  unfold gTk
  rw [if_neg (by omega)]
theorem gTk_off {p : Int} {M : fM} {row other : Nat} {t : Int} {a b k i j : Nat} (h : ¬ (k = 10 ∧ i = row ∧ a ≤ j ∧ j < b)) : gTk p M row other t a b k i j = M k i j := by
  unfold gTk
  rw [if_neg h]
theorem gTk_s {p : Int} {M : fM} {row other : Nat} {t : Int} {a c : Nat} (h : a ≤ c) : fup (gTk p M row other t a c) 10 row c ((M 10 row c + (p - t) * M 10 other c) % p) = gTk p M row other t a (c + 1) := by
  funext k i j
  unfold fup gTk
  by_cases e : k = 10 ∧ i = row ∧ j = c
  · obtain ⟨rfl, rfl, rfl⟩ := e
    rw [if_pos ⟨rfl, rfl, rfl⟩, if_pos ⟨rfl, rfl, h, by omega⟩]
  · rw [if_neg e]
    by_cases e2 : k = 10 ∧ i = row ∧ a ≤ j ∧ j < c
    · rw [if_pos e2, if_pos ⟨e2.1, e2.2.1, e2.2.2.1, by omega⟩]
    · rw [if_neg e2, if_neg (by omega)]
set_option maxHeartbeats 4000000 in
set_option maxRecDepth 100000 in
theorem takeAway_l {g : fG} {M : fM} {p t : Int} {row other a b : Nat} (hp : M 8 0 3 = p) (hp2 : 2 ≤ p ∧ p ≤ 97) (hrow : row < 11) (hoth : other < 11) (ht : 0 ≤ t ∧ t < p) (hb : b ≤ 12) (hr : ∀ j, a ≤ j → j < b → 0 ≤ M 10 row j ∧ M 10 row j < p) (ho : ∀ j, a ≤ j → j < b → 0 ≤ M 10 other j ∧ M 10 other j < p) :
    ∀ (n c : Nat), a ≤ c → c ≤ b → c + n = b → fAt g Y_X1_takeAway 33 [some (vr 8 0), some (vi (row : Int)), some (vi (other : Int)), some (vi t), some (vi (a : Int)), some (vi (b : Int)), some (vr 10 row), some (vr 10 other), some (vi (p - t)), some (vi (c : Int))] [] (gTk p M row other t a c) (fN (fun M' => M' = gTk p M row other t a b)) := by
  intro n
  induction n with
  | zero =>
    intro c ha hc hn
    have e : c = b := by omega
    subst e
    refine st_iload dX1_takeAway_33 rfl ?_
    refine st_iload dX1_takeAway_35 rfl ?_
    refine st_icmp_ge 70 dX1_takeAway_37 (by decide) (fun h37 => ?_) (fun h37 => ?_)
    · skip
      refine st_return dX1_takeAway_70 rfl ⟨rfl, rfl⟩
    · skip
      exact absurd h37 (by omega)
  | succ n ih =>
    intro c ha hc hn
    refine st_iload dX1_takeAway_33 rfl ?_
    refine st_iload dX1_takeAway_35 rfl ?_
    refine st_icmp_ge 70 dX1_takeAway_37 (by decide) (fun h37 => ?_) (fun h37 => ?_)
    · skip
      exact absurd h37 (by omega)
    · skip
      refine st_aload dX1_takeAway_40 rfl ?_
      refine st_iload dX1_takeAway_42 rfl ?_
      refine st_aload dX1_takeAway_44 rfl ?_
      refine st_iload dX1_takeAway_46 rfl ?_
      refine st_iald (j := c) dX1_takeAway_48 rfl rfl rfl rfl (by omega) ?_
      refine fAt_v (x' := M 10 row c) (gTk_off (by omega)) ?_
      refine st_iload dX1_takeAway_49 rfl ?_
      refine st_aload dX1_takeAway_51 rfl ?_
      refine st_iload dX1_takeAway_53 rfl ?_
      refine st_iald (j := c) dX1_takeAway_55 rfl rfl rfl rfl (by omega) ?_
      refine fAt_v (x' := M 10 other c) (gTk_off (by omega)) ?_
      have hm := mulb (x := p - t) (y := M 10 other c) (a := 97) (b := 97) (by omega) (ho c (by omega) (by omega)).1 (by omega) (by have := (ho c (by omega) (by omega)).2; omega)
      have hr1 := hr c (by omega) (by omega)
      refine st_imul dX1_takeAway_56 (by omega) ?_
      refine st_iadd dX1_takeAway_57 (by omega) ?_
      refine st_aload_n dX1_takeAway_58 rfl ?_
      refine st_get dX1_takeAway_59 fl_X1_23 rfl rfl rfl ?_
      refine fAt_v (x' := p) (by rw [gTk_off (by omega)]; exact hp) ?_
      refine st_irem dX1_takeAway_62 (by omega) (by omega) ?_
      refine st_iast (j := c) dX1_takeAway_63 rfl rfl rfl rfl (by omega) ?_
      refine fAt_m (gTk_s ha) ?_
      refine st_iinc (ls' := [some (vr 8 0), some (vi (row : Int)), some (vi (other : Int)), some (vi t), some (vi (a : Int)), some (vi (b : Int)), some (vr 10 row), some (vr 10 other), some (vi (p - t)), some (vi ((c : Int) + 1))]) dX1_takeAway_64 rfl (by omega) (by decide) rfl rfl ?_
      refine st_goto 33 dX1_takeAway_67 (by decide) ?_
      exact ih (c + 1) (by omega) (by omega) (by omega)
set_option maxHeartbeats 4000000 in
set_option maxRecDepth 100000 in
theorem c_takeAway {g : fG} {M : fM} {p t : Int} {row other a b : Nat} (hp : M 8 0 3 = p) (hp2 : 2 ≤ p ∧ p ≤ 97) (hrow : row < 11) (hoth : other < 11) (ht : 0 ≤ t ∧ t < p) (hab : a ≤ b) (hb : b ≤ 12) (hr : ∀ j, a ≤ j → j < b → 0 ≤ M 10 row j ∧ M 10 row j < p) (ho : ∀ j, a ≤ j → j < b → 0 ≤ M 10 other j ∧ M 10 other j < p) :
    fCv g Y_X1_takeAway [vr 8 0, vi row, vi other, vi t, vi a, vi b] M (fun M' => M' = gTk p M row other t a b) := by
  refine fCv_of _ [some (vr 8 0), some (vi (row : Int)), some (vi (other : Int)), some (vi t), some (vi (a : Int)), some (vi (b : Int)), none, none, none, none] (by decide) (Nat.le_of_ble_eq_true rfl) rfl (fun h => h) ?_
  refine st_iload_n dX1_takeAway_0 rfl ?_
  refine st_if_ne 5 dX1_takeAway_1 (by decide) (fun h1 => ?_) (fun h1 => ?_)
  · skip
    refine st_aload_n dX1_takeAway_5 rfl ?_
    refine st_getr (i' := 0) dX1_takeAway_6 fl_X1_11 rfl rfl rfl (fun _ => by decide) ?_
    refine st_iload_n dX1_takeAway_9 rfl ?_
    refine st_aald (j := row) (i' := row) dX1_takeAway_10 rfl rfl rfl rfl ⟨_, rfl, rfl⟩ rfl (show row < 11 from by omega) rfl (fun _ => show row < 11 from by omega) ?_
    refine st_astore (ls' := [some (vr 8 0), some (vi (row : Int)), some (vi (other : Int)), some (vi t), some (vi (a : Int)), some (vi (b : Int)), some (vr 10 row), none, none, none]) dX1_takeAway_11 (by decide) rfl rfl ?_
    refine st_aload_n dX1_takeAway_13 rfl ?_
    refine st_getr (i' := 0) dX1_takeAway_14 fl_X1_11 rfl rfl rfl (fun _ => by decide) ?_
    refine st_iload_n dX1_takeAway_17 rfl ?_
    refine st_aald (j := other) (i' := other) dX1_takeAway_18 rfl rfl rfl rfl ⟨_, rfl, rfl⟩ rfl (show other < 11 from by omega) rfl (fun _ => show other < 11 from by omega) ?_
    refine st_astore (ls' := [some (vr 8 0), some (vi (row : Int)), some (vi (other : Int)), some (vi t), some (vi (a : Int)), some (vi (b : Int)), some (vr 10 row), some (vr 10 other), none, none]) dX1_takeAway_19 (by decide) rfl rfl ?_
    refine st_aload_n dX1_takeAway_21 rfl ?_
    refine st_get dX1_takeAway_22 fl_X1_23 rfl rfl rfl ?_
    refine fAt_v (x' := p) hp ?_
    refine st_iload_n dX1_takeAway_25 rfl ?_
    refine st_isub dX1_takeAway_26 (by omega) ?_
    refine st_istore (ls' := [some (vr 8 0), some (vi (row : Int)), some (vi (other : Int)), some (vi t), some (vi (a : Int)), some (vi (b : Int)), some (vr 10 row), some (vr 10 other), some (vi (p - t)), none]) dX1_takeAway_27 (by decide) rfl rfl ?_
    refine st_iload dX1_takeAway_29 rfl ?_
    refine st_istore (ls' := [some (vr 8 0), some (vi (row : Int)), some (vi (other : Int)), some (vi t), some (vi (a : Int)), some (vi (b : Int)), some (vr 10 row), some (vr 10 other), some (vi (p - t)), some (vi (a : Int))]) dX1_takeAway_31 (by decide) rfl rfl ?_
    refine fAt_m (gTk_0 p M row other t a).symm ?_
    exact takeAway_l hp hp2 hrow hoth ht hb hr ho (b - a) a (Nat.le_refl a) hab (by omega)
  · skip
    subst h1
    refine st_return dX1_takeAway_4 rfl ⟨rfl, (by funext k i j; unfold gTk; split; (next e => have := hr j e.2.2.1 e.2.2.2; rw [e.1, e.2.1, Int.sub_zero, Int.add_mul_emod_self_left, Int.emod_eq_of_lt this.1 this.2]); rfl)⟩
theorem gTk_w (p : Int) (M : fM) (C : Nat → Nat → Int) (row other : Nat) (t : Int) (a b : Nat) : gTk p (wC M C) row other t a b = wC M (rTk p C row other t a b) := by
  funext k i j
  unfold gTk wC rTk
  by_cases e : k = 10
  · subst e
    by_cases e2 : i = row ∧ a ≤ j ∧ j < b
    · rw [if_pos ⟨rfl, e2⟩, if_pos rfl, if_pos rfl]; rw [if_pos e2]
    · rw [if_neg (fun h => e2 h.2), if_pos rfl, if_pos rfl]; rw [if_neg e2]
  · rw [if_neg (fun h => e h.1), if_neg e, if_neg e]
/-- the grid's prime and inverses -/
def gOk (p : Int) (M : fM) : Prop := M 8 0 3 = p ∧ (2 ≤ p ∧ p ≤ 97) ∧ ∀ a : Nat, 1 ≤ a → (a : Int) < p → 0 ≤ M 12 0 a ∧ M 12 0 a < p ∧ ((a : Int) * M 12 0 a) % p = 1
theorem gOk_w {p : Int} {M : fM} {C : Nat → Nat → Int} (h : gOk p M) : gOk p (wC M C) := ⟨h.1, h.2.1, fun a h1 h2 => h.2.2 a h1 h2⟩
theorem c_takeAway_w {g : fG} {M : fM} {p t : Int} {C : Nat → Nat → Int} {row other a b : Nat} (hg : gOk p M) (hrow : row < 11) (hoth : other < 11) (ht : 0 ≤ t ∧ t < p) (hab : a ≤ b) (hb : b ≤ 12) (hr : ∀ j, a ≤ j → j < b → 0 ≤ C row j ∧ C row j < p) (ho : ∀ j, a ≤ j → j < b → 0 ≤ C other j ∧ C other j < p) :
    fCv g Y_X1_takeAway [vr 8 0, vi row, vi other, vi t, vi a, vi b] (wC M C) (fun M' => M' = wC M (rTk p C row other t a b)) := by
  rw [← gTk_w]
  exact c_takeAway (M := wC M C) hg.1 hg.2.1 hrow hoth ht hab hb hr ho
theorem lt_sN {a i : Nat} {P : Nat → Prop} (h : ∀ q, a ≤ q → q < i → P q) (hi : P i) : ∀ q, a ≤ q → q < i + 1 → P q := fun q h1 h2 => by
  rcases Nat.lt_or_ge q i with e | e
  · exact h q h1 e
  · have : q = i := by omega
    rw [this]; exact hi
set_option maxHeartbeats 4000000 in
set_option maxRecDepth 100000 in
theorem findPivot_l {g : fG} {M : fM} {p : Int} {C : Nat → Nat → Int} {col row rows cols : Nat} (hg : gOk p M) (hc : col < cols) (hcols : cols ≤ 12) (hrows : rows ≤ 11) (hR : ∀ i j, i < rows → j < cols → 0 ≤ C i j ∧ C i j < p) :
    ∀ (n r : Nat), row ≤ r → r + n = rows → (∀ q, row ≤ q → q < r → C q col = 0) → fAt g Y_X1_findPivot 3 [some (vr 8 0), some (vi (col : Int)), some (vi (row : Int)), some (vi (rows : Int)), some (vi (cols : Int)), some (vi (r : Int))] [] (wC M C) (fI (fun z M' => (z = 0 ∧ M' = wC M C ∧ ∀ r, row ≤ r → r < rows → C r col = 0) ∨ (z = 1 ∧ ∃ r, row ≤ r ∧ r < rows ∧ C r col ≠ 0 ∧ (∀ q, row ≤ q → q < r → C q col = 0) ∧ M' = wC M (if r = row then C else rTk p C row r (p - 1) 0 cols)))) := by
  intro n
  induction n with
  | zero =>
    intro r hr hn h0
    have e : r = rows := by omega
    subst e
    refine st_iload dX1_findPivot_3 rfl ?_
    refine st_iload_n dX1_findPivot_5 rfl ?_
    refine st_icmp_ge 51 dX1_findPivot_6 (by decide) (fun h6 => ?_) (fun h6 => ?_)
    · skip
      refine st_iconst dX1_findPivot_51 (by decide) ?_
      refine st_zreturn dX1_findPivot_52 rfl (by omega) ⟨_, rfl, Or.inl ⟨rfl, rfl, fun q h1 h2 => h0 q h1 h2⟩⟩
    · skip
      exact absurd h6 (by omega)
  | succ n ih =>
    intro r hr hn h0
    have hp2 := hg.2.1
    refine st_iload dX1_findPivot_3 rfl ?_
    refine st_iload_n dX1_findPivot_5 rfl ?_
    refine st_icmp_ge 51 dX1_findPivot_6 (by decide) (fun h6 => ?_) (fun h6 => ?_)
    · skip
      exact absurd h6 (by omega)
    · skip
      refine st_aload_n dX1_findPivot_9 rfl ?_
      refine st_getr (i' := 0) dX1_findPivot_10 fl_X1_11 rfl rfl rfl (fun _ => by decide) ?_
      refine st_iload dX1_findPivot_13 rfl ?_
      refine st_aald (j := r) (i' := r) dX1_findPivot_15 rfl rfl rfl rfl ⟨_, rfl, rfl⟩ rfl (show r < 11 from by omega) rfl (fun _ => show r < 11 from by omega) ?_
      refine st_iload_n dX1_findPivot_16 rfl ?_
      refine st_iald (j := col) dX1_findPivot_17 rfl rfl rfl rfl (by omega) ?_
      refine fAt_v (x' := C r col) rfl ?_
      refine st_if_eq 45 dX1_findPivot_18 (by decide) (fun h18 => ?_) (fun h18 => ?_)
      · skip
        refine st_iinc (ls' := [some (vr 8 0), some (vi (col : Int)), some (vi (row : Int)), some (vi (rows : Int)), some (vi (cols : Int)), some (vi ((r : Int) + 1))]) dX1_findPivot_45 rfl (by omega) (by decide) rfl rfl ?_
        refine st_goto 3 dX1_findPivot_48 (by decide) ?_
        exact ih (r + 1) (by omega) (by omega) (lt_sN h0 h18)
      · skip
        refine st_iload dX1_findPivot_21 rfl ?_
        refine st_iload_n dX1_findPivot_23 rfl ?_
        refine st_icmp_eq 43 dX1_findPivot_24 (by decide) (fun h24 => ?_) (fun h24 => ?_)
        · skip
          have e24 : r = row := by omega
          refine st_iconst dX1_findPivot_43 (by decide) ?_
          refine st_zreturn dX1_findPivot_44 rfl (by omega) ⟨_, rfl, ?_⟩
          first
            | exact Or.inr ⟨rfl, r, by omega, by omega, h18, fun q h1 h2 => h0 q h1 h2, by rw [if_pos e24]⟩
            | exact Or.inr ⟨rfl, r, by omega, by omega, h18, fun q h1 h2 => h0 q h1 h2, by rw [if_neg (by omega)]⟩
        · skip
          refine st_aload_n dX1_findPivot_27 rfl ?_
          refine st_iload_n dX1_findPivot_28 rfl ?_
          refine st_iload dX1_findPivot_29 rfl ?_
          refine st_aload_n dX1_findPivot_31 rfl ?_
          refine st_get dX1_findPivot_32 fl_X1_23 rfl rfl rfl ?_
          refine fAt_v (x' := p) hg.1 ?_
          refine st_iconst dX1_findPivot_35 (by decide) ?_
          refine st_isub dX1_findPivot_36 (by omega) ?_
          refine st_iconst dX1_findPivot_37 (by decide) ?_
          refine st_iload dX1_findPivot_38 rfl ?_
          refine st_callVv [vi (row : Int), vi (r : Int), vi (p - 1), vi 0, vi (cols : Int)] [] dX1_findPivot_40 vl_X1_44 rfl rfl rfl rfl (Nat.le_of_ble_eq_true rfl) (by decide) (c_takeAway_w (a := 0) hg (by omega) (by omega) (by omega) (by omega) hcols (fun j _ hj => hR row j (by omega) hj) (fun j _ hj => hR r j (by omega) hj)) (fun M1 q1 => ?_)
          subst q1
          refine st_iconst dX1_findPivot_43 (by decide) ?_
          refine st_zreturn dX1_findPivot_44 rfl (by omega) ⟨_, rfl, ?_⟩
          first
            | exact Or.inr ⟨rfl, r, by omega, by omega, h18, fun q h1 h2 => h0 q h1 h2, by rw [if_pos e24]⟩
            | exact Or.inr ⟨rfl, r, by omega, by omega, h18, fun q h1 h2 => h0 q h1 h2, by rw [if_neg (by omega)]⟩
set_option maxHeartbeats 4000000 in
set_option maxRecDepth 100000 in
theorem c_findPivot {g : fG} {M : fM} {p : Int} {C : Nat → Nat → Int} {col row rows cols : Nat} (hg : gOk p M) (hc : col < cols) (hcols : cols ≤ 12) (hrows : rows ≤ 11) (hR : ∀ i j, i < rows → j < cols → 0 ≤ C i j ∧ C i j < p) (hrr : row ≤ rows) :
    fCi g Y_X1_findPivot [vr 8 0, vi col, vi row, vi rows, vi cols] (wC M C) (fun z M' => (z = 0 ∧ M' = wC M C ∧ ∀ r, row ≤ r → r < rows → C r col = 0) ∨ (z = 1 ∧ ∃ r, row ≤ r ∧ r < rows ∧ C r col ≠ 0 ∧ (∀ q, row ≤ q → q < r → C q col = 0) ∧ M' = wC M (if r = row then C else rTk p C row r (p - 1) 0 cols))) := by
  refine fCi_of _ [some (vr 8 0), some (vi (col : Int)), some (vi (row : Int)), some (vi (rows : Int)), some (vi (cols : Int)), none] (by decide) (Nat.le_of_ble_eq_true rfl) rfl (fun h => h) ?_
  refine st_iload_n dX1_findPivot_0 rfl ?_
  refine st_istore (ls' := [some (vr 8 0), some (vi (col : Int)), some (vi (row : Int)), some (vi (rows : Int)), some (vi (cols : Int)), some (vi (row : Int))]) dX1_findPivot_1 (by decide) rfl rfl ?_
  exact findPivot_l hg hc hcols hrows hR (rows - row) row (Nat.le_refl row) (by omega) (fun q h1 h2 => absurd h2 (by omega))
