/-! ===== the reference ===== -/
def wW (M : fM) (C : Nat → Nat → Int) : fM := fun k a b => if k = 24 ∧ a = 0 then C (b / 13) (b % 13) else M k a b
theorem wW_at {M : fM} {C : Nat → Nat → Int} {r c : Nat} (h : c < 13) : wW M C 24 0 (13 * r + c) = C r c := by
  unfold wW
  rw [if_pos ⟨rfl, rfl⟩, show (13 * r + c) / 13 = r by omega, show (13 * r + c) % 13 = c by omega]
theorem wW_ne {M : fM} {C : Nat → Nat → Int} {k a b : Nat} (h : k ≠ 24) : wW M C k a b = M k a b := by
  unfold wW
  rw [if_neg (fun q => h q.1)]
theorem wW_up (M : fM) (C : Nat → Nat → Int) (r c : Nat) (v : Int) (h : c < 13) : fup (wW M C) 24 0 (13 * r + c) v = wW M (fun i j => if i = r ∧ j = c then v else C i j) := by
  funext k a b
  unfold fup wW
  by_cases e : k = 24 ∧ a = 0
  · obtain ⟨rfl, rfl⟩ := e
    by_cases e2 : b = 13 * r + c
    · rw [if_pos ⟨rfl, rfl, e2⟩, if_pos ⟨rfl, rfl⟩]
      show v = if b / 13 = r ∧ b % 13 = c then v else C (b / 13) (b % 13)
      rw [if_pos ⟨by omega, by omega⟩]
    · rw [if_neg (by omega), if_pos ⟨rfl, rfl⟩, if_pos ⟨rfl, rfl⟩]
      show _ = if b / 13 = r ∧ b % 13 = c then v else C (b / 13) (b % 13)
      rw [if_neg (by omega)]
  · rw [if_neg (by omega), if_neg e, if_neg e]
theorem wW_self (M : fM) : wW M (fun i j => M 24 0 (13 * i + j)) = M := by
  funext k a b
  unfold wW
  by_cases e : k = 24 ∧ a = 0
  · rw [if_pos e, e.1, e.2]
    show M 24 0 (13 * (b / 13) + b % 13) = M 24 0 b
    rw [show 13 * (b / 13) + b % 13 = b by omega]
  · rw [if_neg e]
theorem wW_c {M : fM} {C D : Nat → Nat → Int} (h : ∀ i j, j < 13 → C i j = D i j) : wW M C = wW M D := by
  funext k a b
  unfold wW
  by_cases e : k = 24 ∧ a = 0
  · rw [if_pos e, if_pos e, h _ _ (by omega)]
  · rw [if_neg e, if_neg e]
theorem wW_wW (M : fM) (C D : Nat → Nat → Int) : wW (wW M C) D = wW M D := by
  funext k a b
  unfold wW
  by_cases e : k = 24 ∧ a = 0
  · rw [if_pos e, if_pos e]
  · rw [if_neg e, if_neg e, if_neg e]
abbrev lL (M : fM) : Nat → Int := fun q => M 23 0 (4 + q)
abbrev lS (M : fM) : Nat → Int := fun q => M 23 0 (15 + q)
def nOk (M : fM) (w : Nat) (p : Int) : Prop := M 23 0 0 = (w : Int) ∧ M 23 0 2 = p ∧ pOk p ∧ (1 ≤ w ∧ w ≤ 6) ∧ (0 ≤ M 23 0 1 ∧ M 23 0 1 ≤ 4) ∧ (∀ q, q < 2 * w - 1 → 0 ≤ lL M q ∧ lL M q < p) ∧ (∀ q, q < w → 0 ≤ lS M q ∧ lS M q < p) ∧ (0 ≤ M 23 0 3 ∧ M 23 0 3 ≤ 2147483647)
theorem nOk_k {M N : fM} {w : Nat} {p : Int} (h : nOk M w p) (e : ∀ b, N 23 0 b = M 23 0 b) : nOk N w p := by
  obtain ⟨h1, h2, h3, h4, h5, h6, h7, h8⟩ := h
  exact ⟨by rw [e]; exact h1, by rw [e]; exact h2, h3, h4, by rw [e]; exact h5, fun q hq => by show 0 ≤ N 23 0 (4 + q) ∧ N 23 0 (4 + q) < p; rw [e]; exact h6 q hq, fun q hq => by show 0 ≤ N 23 0 (15 + q) ∧ N 23 0 (15 + q) < p; rw [e]; exact h7 q hq, by rw [e]; exact h8⟩
set_option maxHeartbeats 4000000 in
set_option maxRecDepth 100000 in
theorem m_in {g : fG} {M : fM} {v lo hi : Int} :
    fCi g Y_X7_in [vl v, vl lo, vl hi] M (fun z M' => ((z = 1 ∧ lo ≤ v ∧ v ≤ hi) ∨ (z = 0 ∧ ¬ (lo ≤ v ∧ v ≤ hi))) ∧ M' = M) := by
  refine fCi_of _ [some (vl v), none, some (vl lo), none, some (vl hi), none] (by decide) (Nat.le_of_ble_eq_true rfl) rfl (fun h => h) ?_
  refine st_lload_n dX7_in_0 rfl ?_
  refine st_lload_n dX7_in_1 rfl ?_
  refine st_lcmp dX7_in_2 ?_
  refine st_if_lt 17 dX7_in_3 (by decide) (fun h3 => ?_) (fun h3 => ?_)
  · skip
    have h3 := fcmp_lt.mp h3
    refine st_iconst dX7_in_17 (by decide) ?_
    refine st_zreturn dX7_in_18 rfl (by omega) ⟨_, rfl, ⟨by omega, rfl⟩⟩
  · skip
    have h3 : ¬ v < lo := fun q => absurd (fcmp_lt.mpr q) (by omega)
    refine st_lload_n dX7_in_6 rfl ?_
    refine st_lload dX7_in_7 rfl ?_
    refine st_lcmp dX7_in_9 ?_
    refine st_if_gt 17 dX7_in_10 (by decide) (fun h10 => ?_) (fun h10 => ?_)
    · skip
      have h10 := fcmp_gt.mp h10
      refine st_iconst dX7_in_17 (by decide) ?_
      refine st_zreturn dX7_in_18 rfl (by omega) ⟨_, rfl, ⟨by omega, rfl⟩⟩
    · skip
      have h10 : ¬ hi < v := fun q => absurd (fcmp_gt.mpr q) (by omega)
      refine st_iconst dX7_in_13 (by decide) ?_
      refine st_goto 18 dX7_in_14 (by decide) ?_
      refine st_zreturn dX7_in_18 rfl (by omega) ⟨_, rfl, ⟨by omega, rfl⟩⟩
set_option maxHeartbeats 4000000 in
set_option maxRecDepth 100000 in
theorem m_lines {g : fG} {M : fM} {w : Nat} (hw : M 23 0 0 = (w : Int)) (hw1 : 1 ≤ w ∧ w ≤ 6) :
    fCi g Y_X7_lines [vr 22 0] M (fun z M' => z = ((2 * w - 1 : Nat) : Int) ∧ M' = M) := by
  refine fCi_of _ [some (vr 22 0)] (by decide) (Nat.le_of_ble_eq_true rfl) rfl (fun h => h) ?_
  refine st_iconst dX7_lines_0 (by decide) ?_
  refine st_aload_n dX7_lines_1 rfl ?_
  refine st_getr (i' := 0) dX7_lines_2 fl_X7_7 rfl rfl rfl (fun _ => by decide) ?_
  refine st_iconst dX7_lines_5 (by decide) ?_
  refine st_iald (j := 0) dX7_lines_6 rfl rfl rfl rfl (by decide) ?_
  refine fAt_v (x' := (w : Int)) hw ?_
  refine st_imul dX7_lines_7 (by omega) ?_
  refine st_iconst dX7_lines_8 (by decide) ?_
  refine st_isub dX7_lines_9 (by omega) ?_
  refine st_ireturn dX7_lines_10 rfl ⟨_, rfl, ⟨by omega, rfl⟩⟩
set_option maxHeartbeats 4000000 in
set_option maxRecDepth 100000 in
theorem m_isNumber {g : fG} {M : fM} {p x : Int} (hp : M 23 0 2 = p) (hp2 : 2 ≤ p ∧ p ≤ 97) :
    fCi g Y_X7_isNumber [vr 22 0, vl x] M (fun z M' => ((z = 1 ∧ 0 ≤ x ∧ x < p) ∨ (z = 0 ∧ ¬ (0 ≤ x ∧ x < p))) ∧ M' = M) := by
  refine fCi_of _ [some (vr 22 0), some (vl x), none] (by decide) (Nat.le_of_ble_eq_true rfl) rfl (fun h => h) ?_
  refine st_lload_n dX7_isNumber_0 rfl ?_
  refine st_lconst0 dX7_isNumber_1 ?_
  refine st_aload_n dX7_isNumber_2 rfl ?_
  refine st_getr (i' := 0) dX7_isNumber_3 fl_X7_7 rfl rfl rfl (fun _ => by decide) ?_
  refine st_iconst dX7_isNumber_6 (by decide) ?_
  refine st_iald (j := 2) dX7_isNumber_7 rfl rfl rfl rfl (by decide) ?_
  refine fAt_v (x' := p) hp ?_
  refine st_iconst dX7_isNumber_8 (by decide) ?_
  refine st_isub dX7_isNumber_9 (by omega) ?_
  refine st_i2l dX7_isNumber_10 ?_
  refine st_callSi [vl x, vl 0, vl (p - 1)] [] dX7_isNumber_11 sl_X7_57 rfl rfl (Nat.le_of_ble_eq_true rfl) (by decide) (m_in) (fun za Ma qa => ?_)
  obtain ⟨qa, rfl⟩ := qa
  refine st_zreturn dX7_isNumber_14 rfl (by omega) ⟨_, rfl, ⟨by omega, rfl⟩⟩
set_option maxHeartbeats 4000000 in
set_option maxRecDepth 100000 in
theorem m_isLine {g : fG} {M : fM} {w : Nat} {x : Int} (hw : M 23 0 0 = (w : Int)) (hw1 : 1 ≤ w ∧ w ≤ 6) :
    fCi g Y_X7_isLine [vr 22 0, vi x] M (fun z M' => ((z = 1 ∧ 0 ≤ x ∧ x < ((2 * w - 1 : Nat) : Int)) ∨ (z = 0 ∧ ¬ (0 ≤ x ∧ x < ((2 * w - 1 : Nat) : Int)))) ∧ M' = M) := by
  refine fCi_of _ [some (vr 22 0), some (vi x)] (by decide) (Nat.le_of_ble_eq_true rfl) rfl (fun h => h) ?_
  refine st_iload_n dX7_isLine_0 rfl ?_
  refine st_i2l dX7_isLine_1 ?_
  refine st_lconst0 dX7_isLine_2 ?_
  refine st_aload_n dX7_isLine_3 rfl ?_
  refine st_callVi [] [vl 0, vl x] dX7_isLine_4 vl_X7_61 rfl rfl rfl rfl (Nat.le_of_ble_eq_true rfl) (by decide) (m_lines hw hw1) (fun zl Ml ql => ?_)
  obtain ⟨rfl, rfl⟩ := ql
  refine st_iconst dX7_isLine_7 (by decide) ?_
  refine st_isub dX7_isLine_8 (by omega) ?_
  refine st_i2l dX7_isLine_9 ?_
  refine st_callSi [vl x, vl 0, vl ((((2 * w - 1) : Nat) : Int) - 1)] [] dX7_isLine_10 sl_X7_57 rfl rfl (Nat.le_of_ble_eq_true rfl) (by decide) (m_in) (fun za Ma qa => ?_)
  obtain ⟨qa, rfl⟩ := qa
  refine st_zreturn dX7_isLine_13 rfl (by omega) ⟨_, rfl, ⟨by omega, rfl⟩⟩
set_option maxHeartbeats 4000000 in
set_option maxRecDepth 100000 in
theorem m_isRow {g : fG} {M : fM} {w : Nat} {x : Int} (hw : M 23 0 0 = (w : Int)) (hw1 : 1 ≤ w ∧ w ≤ 6) :
    fCi g Y_X7_isRow [vr 22 0, vi x] M (fun z M' => ((z = 1 ∧ 0 ≤ x ∧ x < (w : Int)) ∨ (z = 0 ∧ ¬ (0 ≤ x ∧ x < (w : Int)))) ∧ M' = M) := by
  refine fCi_of _ [some (vr 22 0), some (vi x)] (by decide) (Nat.le_of_ble_eq_true rfl) rfl (fun h => h) ?_
  refine st_iload_n dX7_isRow_0 rfl ?_
  refine st_i2l dX7_isRow_1 ?_
  refine st_lconst0 dX7_isRow_2 ?_
  refine st_aload_n dX7_isRow_3 rfl ?_
  refine st_getr (i' := 0) dX7_isRow_4 fl_X7_7 rfl rfl rfl (fun _ => by decide) ?_
  refine st_iconst dX7_isRow_7 (by decide) ?_
  refine st_iald (j := 0) dX7_isRow_8 rfl rfl rfl rfl (by decide) ?_
  refine fAt_v (x' := (w : Int)) hw ?_
  refine st_iconst dX7_isRow_9 (by decide) ?_
  refine st_isub dX7_isRow_10 (by omega) ?_
  refine st_i2l dX7_isRow_11 ?_
  refine st_callSi [vl x, vl 0, vl ((w : Int) - 1)] [] dX7_isRow_12 sl_X7_57 rfl rfl (Nat.le_of_ble_eq_true rfl) (by decide) (m_in) (fun za Ma qa => ?_)
  obtain ⟨qa, rfl⟩ := qa
  refine st_zreturn dX7_isRow_15 rfl (by omega) ⟨_, rfl, ⟨by omega, rfl⟩⟩
theorem ent_n4 {p : Int} {w : Nat} {kd : Int} {L : Nat → Int} {i j : Nat} (h : ¬ (kd = 4 ∧ i < j)) : ent p w kd L i j = L (plc w kd i j) := by
  unfold ent
  rw [if_neg (fun q => h ⟨q.1, q.2.1⟩)]
theorem ent_4 {p : Int} {w : Nat} {L : Nat → Int} {i j : Nat} (hij : i < j) (h : 0 ≤ L (plc w 4 i j) ∧ L (plc w 4 i j) < p) : ent p w 4 L i j = (p - L (plc w 4 i j)) % p := by
  unfold ent
  by_cases e : L (plc w 4 i j) = 0
  · rw [if_neg (fun q => q.2.2 e), e, Int.sub_zero, Int.emod_self]
  · rw [if_pos ⟨rfl, hij, e⟩, Int.emod_eq_of_lt (by omega) (by omega)]
theorem md3 {w a b : Nat} (ha : a < w) (hb : b < w) : ((a : Int) - (b : Int) + (w : Int)) % (w : Int) = (if a < b then ((a + w - b : Nat) : Int) else ((a - b : Nat) : Int)) := by
  split
  · rw [Int.emod_eq_of_lt (by omega) (by omega)]; omega
  · rw [show (a : Int) - (b : Int) + (w : Int) = ((a - b : Nat) : Int) + (w : Int) by omega, Int.add_emod_right, Int.emod_eq_of_lt (by omega) (by omega)]
set_option maxHeartbeats 4000000 in
set_option maxRecDepth 100000 in
theorem m_entryBy {g : fG} {M : fM} {w a b : Nat} {p kd : Int} (hn : nOk M w p) (ha : a < w) (hb : b < w) (hkd : kd = 0 ∨ kd = 1 ∨ kd = 2 ∨ kd = 3 ∨ kd = 4) :
    fCi g Y_X7_entryBy [vr 22 0, vi kd, vi (a : Int), vi (b : Int)] M (fun z M' => z = ent p w kd (lL M) a b ∧ M' = M) := by
  have hw1 := hn.2.2.2.1
  have hp2 := hn.2.2.1.1
  refine fCi_of _ [some (vr 22 0), some (vi kd), some (vi (a : Int)), some (vi (b : Int)), none, none, none] (by decide) (Nat.le_of_ble_eq_true rfl) rfl (fun h => h) ?_
  refine st_aload_n dX7_entryBy_0 rfl ?_
  refine st_getr (i' := 0) dX7_entryBy_1 fl_X7_7 rfl rfl rfl (fun _ => by decide) ?_
  refine st_iconst dX7_entryBy_4 (by decide) ?_
  refine st_iald (j := 0) dX7_entryBy_5 rfl rfl rfl rfl (by decide) ?_
  refine fAt_v (x' := (w : Int)) hn.1 ?_
  refine st_istore (ls' := [some (vr 22 0), some (vi kd), some (vi (a : Int)), some (vi (b : Int)), some (vi (w : Int)), none, none]) dX7_entryBy_6 (by decide) rfl rfl ?_
  refine st_iconst dX7_entryBy_8 (by decide) ?_
  refine st_iload dX7_entryBy_9 rfl ?_
  refine st_iadd dX7_entryBy_11 (by omega) ?_
  refine st_iconst dX7_entryBy_12 (by decide) ?_
  refine st_isub dX7_entryBy_13 (by omega) ?_
  refine st_istore (ls' := [some (vr 22 0), some (vi kd), some (vi (a : Int)), some (vi (b : Int)), some (vi (w : Int)), some (vi ((4 + (w : Int)) - 1)), none]) dX7_entryBy_14 (by decide) rfl rfl ?_
  refine st_iload_n dX7_entryBy_16 rfl ?_
  refine st_iload_n dX7_entryBy_17 rfl ?_
  refine st_icmp_ge 27 dX7_entryBy_18 (by decide) (fun h18 => ?_) (fun h18 => ?_)
  · skip
    refine st_iload_n dX7_entryBy_27 rfl ?_
    refine st_iload_n dX7_entryBy_28 rfl ?_
    refine st_isub dX7_entryBy_29 (by omega) ?_
    refine st_istore (ls' := [some (vr 22 0), some (vi kd), some (vi (a : Int)), some (vi (b : Int)), some (vi (w : Int)), some (vi ((4 + (w : Int)) - 1)), some (vi ((a : Int) - (b : Int)))]) dX7_entryBy_30 (by decide) rfl rfl ?_
    refine st_iload_n dX7_entryBy_32 rfl ?_
    rcases hkd with rfl | rfl | rfl | rfl | rfl
    · skip
      refine st_tableIn 64 dX7_entryBy_33 (by decide) (by decide) rfl (by decide) ?_
      refine st_aload_n dX7_entryBy_64 rfl ?_
      refine st_getr (i' := 0) dX7_entryBy_65 fl_X7_7 rfl rfl rfl (fun _ => by decide) ?_
      refine st_iload dX7_entryBy_68 rfl ?_
      refine st_iload_n dX7_entryBy_70 rfl ?_
      refine st_iadd dX7_entryBy_71 (by omega) ?_
      refine st_iload_n dX7_entryBy_72 rfl ?_
      refine st_isub dX7_entryBy_73 (by omega) ?_
      refine st_iald (j := (4 + w - 1 + a - b)) dX7_entryBy_74 rfl rfl rfl (by omega) (by omega) ?_
      refine fAt_v (x' := lL M (plc w 0 a b)) (by show M 23 0 _ = M 23 0 _; congr 1; rw [plc_0]; omega) ?_
      refine st_ireturn dX7_entryBy_75 rfl ⟨_, rfl, ⟨(ent_n4 (by omega)).symm, rfl⟩⟩
    · skip
      refine st_tableIn 76 dX7_entryBy_33 (by decide) (by decide) rfl (by decide) ?_
      refine st_aload_n dX7_entryBy_76 rfl ?_
      refine st_getr (i' := 0) dX7_entryBy_77 fl_X7_7 rfl rfl rfl (fun _ => by decide) ?_
      refine st_iload dX7_entryBy_80 rfl ?_
      refine st_iload_n dX7_entryBy_82 rfl ?_
      refine st_iadd dX7_entryBy_83 (by omega) ?_
      refine st_iload dX7_entryBy_84 rfl ?_
      refine st_iconst dX7_entryBy_86 (by decide) ?_
      refine st_isub dX7_entryBy_87 (by omega) ?_
      refine st_iload_n dX7_entryBy_88 rfl ?_
      refine st_isub dX7_entryBy_89 (by omega) ?_
      refine st_isub dX7_entryBy_90 (by omega) ?_
      refine st_iald (j := (4 + (a + b))) dX7_entryBy_91 rfl rfl rfl (by omega) (by omega) ?_
      refine fAt_v (x' := lL M (plc w 1 a b)) (by show M 23 0 _ = M 23 0 _; congr 1; skip) ?_
      refine st_ireturn dX7_entryBy_92 rfl ⟨_, rfl, ⟨(ent_n4 (by omega)).symm, rfl⟩⟩
    · skip
      refine st_tableIn 93 dX7_entryBy_33 (by decide) (by decide) rfl (by decide) ?_
      refine st_aload_n dX7_entryBy_93 rfl ?_
      refine st_getr (i' := 0) dX7_entryBy_94 fl_X7_7 rfl rfl rfl (fun _ => by decide) ?_
      refine st_iload dX7_entryBy_97 rfl ?_
      refine st_iload dX7_entryBy_99 rfl ?_
      refine st_iadd dX7_entryBy_101 (by omega) ?_
      refine st_iald (j := (4 + w - 1 + (if a < b then b - a else a - b))) dX7_entryBy_102 rfl rfl rfl (by split <;> omega) (by split <;> omega) ?_
      refine fAt_v (x' := lL M (plc w 2 a b)) (by show M 23 0 _ = M 23 0 _; congr 1; rw [plc_24 (Or.inl rfl)]; split <;> omega) ?_
      refine st_ireturn dX7_entryBy_103 rfl ⟨_, rfl, ⟨(ent_n4 (by omega)).symm, rfl⟩⟩
    · skip
      refine st_tableIn 104 dX7_entryBy_33 (by decide) (by decide) rfl (by decide) ?_
      refine st_aload_n dX7_entryBy_104 rfl ?_
      refine st_getr (i' := 0) dX7_entryBy_105 fl_X7_7 rfl rfl rfl (fun _ => by decide) ?_
      refine st_iload dX7_entryBy_108 rfl ?_
      refine st_iload_n dX7_entryBy_110 rfl ?_
      refine st_iload_n dX7_entryBy_111 rfl ?_
      refine st_isub dX7_entryBy_112 (by omega) ?_
      refine st_iload dX7_entryBy_113 rfl ?_
      refine st_iadd dX7_entryBy_115 (by omega) ?_
      refine st_iload dX7_entryBy_116 rfl ?_
      refine st_irem dX7_entryBy_118 (by omega) (by omega) ?_
      refine st_iadd dX7_entryBy_119 (by have := modb (x := (a : Int) - (b : Int) + (w : Int)) (p := (w : Int)) (by omega); omega) ?_
      refine st_iald (j := (4 + w - 1 + (if a < b then a + w - b else a - b))) dX7_entryBy_120 rfl rfl rfl (by rw [md3 ha hb]; split <;> omega) (by split <;> omega) ?_
      refine fAt_v (x' := lL M (plc w 3 a b)) (by show M 23 0 _ = M 23 0 _; congr 1; rw [plc_3]; split <;> omega) ?_
      refine st_ireturn dX7_entryBy_121 rfl ⟨_, rfl, ⟨(ent_n4 (by omega)).symm, rfl⟩⟩
    · skip
      refine st_tableOut 122 dX7_entryBy_33 (by decide) (by decide) ?_
      refine st_iload_n dX7_entryBy_122 rfl ?_
      refine st_iload_n dX7_entryBy_123 rfl ?_
      refine st_icmp_ge 154 dX7_entryBy_124 (by decide) (fun h124 => ?_) (fun h124 => ?_)
      · skip
        refine st_aload_n dX7_entryBy_154 rfl ?_
        refine st_getr (i' := 0) dX7_entryBy_155 fl_X7_7 rfl rfl rfl (fun _ => by decide) ?_
        refine st_iload dX7_entryBy_158 rfl ?_
        refine st_iload dX7_entryBy_160 rfl ?_
        refine st_iadd dX7_entryBy_162 (by omega) ?_
        refine st_iald (j := (4 + w - 1 + (a - b))) dX7_entryBy_163 rfl rfl rfl (by omega) (by omega) ?_
        refine fAt_v (x' := lL M (plc w 4 a b)) (by show M 23 0 _ = M 23 0 _; congr 1; rw [plc_24 (Or.inr rfl), if_neg (by omega)]; omega) ?_
        have hpp := hn.2.2.2.2.2.1 (plc w 4 a b) (plc_lt ha hb)
        refine st_ireturn dX7_entryBy_164 rfl ⟨_, rfl, ⟨?_, rfl⟩⟩
        first | exact (ent_4 (by omega) hpp).symm | exact (ent_n4 (by omega)).symm
      · skip
        refine st_aload_n dX7_entryBy_127 rfl ?_
        refine st_getr (i' := 0) dX7_entryBy_128 fl_X7_7 rfl rfl rfl (fun _ => by decide) ?_
        refine st_iconst dX7_entryBy_131 (by decide) ?_
        refine st_iald (j := 2) dX7_entryBy_132 rfl rfl rfl rfl (by decide) ?_
        refine fAt_v (x' := p) hn.2.1 ?_
        refine st_aload_n dX7_entryBy_133 rfl ?_
        refine st_getr (i' := 0) dX7_entryBy_134 fl_X7_7 rfl rfl rfl (fun _ => by decide) ?_
        refine st_iload dX7_entryBy_137 rfl ?_
        refine st_iload dX7_entryBy_139 rfl ?_
        refine st_iadd dX7_entryBy_141 (by omega) ?_
        refine st_iald (j := (4 + w - 1 + (b - a))) dX7_entryBy_142 rfl rfl rfl (by omega) (by omega) ?_
        refine fAt_v (x' := lL M (plc w 4 a b)) (by show M 23 0 _ = M 23 0 _; congr 1; rw [plc_24 (Or.inr rfl), if_pos (by omega)]; omega) ?_
        have hpp := hn.2.2.2.2.2.1 (plc w 4 a b) (plc_lt ha hb)
        refine st_isub dX7_entryBy_143 (by omega) ?_
        refine st_aload_n dX7_entryBy_144 rfl ?_
        refine st_getr (i' := 0) dX7_entryBy_145 fl_X7_7 rfl rfl rfl (fun _ => by decide) ?_
        refine st_iconst dX7_entryBy_148 (by decide) ?_
        refine st_iald (j := 2) dX7_entryBy_149 rfl rfl rfl rfl (by decide) ?_
        refine fAt_v (x' := p) hn.2.1 ?_
        refine st_irem dX7_entryBy_150 (by omega) (by omega) ?_
        refine st_goto 164 dX7_entryBy_151 (by decide) ?_
        refine st_ireturn dX7_entryBy_164 rfl ⟨_, rfl, ⟨?_, rfl⟩⟩
        first | exact (ent_4 (by omega) hpp).symm | exact (ent_n4 (by omega)).symm
  · skip
    refine st_iload_n dX7_entryBy_21 rfl ?_
    refine st_iload_n dX7_entryBy_22 rfl ?_
    refine st_isub dX7_entryBy_23 (by omega) ?_
    refine st_goto 30 dX7_entryBy_24 (by decide) ?_
    refine st_istore (ls' := [some (vr 22 0), some (vi kd), some (vi (a : Int)), some (vi (b : Int)), some (vi (w : Int)), some (vi ((4 + (w : Int)) - 1)), some (vi ((b : Int) - (a : Int)))]) dX7_entryBy_30 (by decide) rfl rfl ?_
    refine st_iload_n dX7_entryBy_32 rfl ?_
    rcases hkd with rfl | rfl | rfl | rfl | rfl
    · skip
      refine st_tableIn 64 dX7_entryBy_33 (by decide) (by decide) rfl (by decide) ?_
      refine st_aload_n dX7_entryBy_64 rfl ?_
      refine st_getr (i' := 0) dX7_entryBy_65 fl_X7_7 rfl rfl rfl (fun _ => by decide) ?_
      refine st_iload dX7_entryBy_68 rfl ?_
      refine st_iload_n dX7_entryBy_70 rfl ?_
      refine st_iadd dX7_entryBy_71 (by omega) ?_
      refine st_iload_n dX7_entryBy_72 rfl ?_
      refine st_isub dX7_entryBy_73 (by omega) ?_
      refine st_iald (j := (4 + w - 1 + a - b)) dX7_entryBy_74 rfl rfl rfl (by omega) (by omega) ?_
      refine fAt_v (x' := lL M (plc w 0 a b)) (by show M 23 0 _ = M 23 0 _; congr 1; rw [plc_0]; omega) ?_
      refine st_ireturn dX7_entryBy_75 rfl ⟨_, rfl, ⟨(ent_n4 (by omega)).symm, rfl⟩⟩
    · skip
      refine st_tableIn 76 dX7_entryBy_33 (by decide) (by decide) rfl (by decide) ?_
      refine st_aload_n dX7_entryBy_76 rfl ?_
      refine st_getr (i' := 0) dX7_entryBy_77 fl_X7_7 rfl rfl rfl (fun _ => by decide) ?_
      refine st_iload dX7_entryBy_80 rfl ?_
      refine st_iload_n dX7_entryBy_82 rfl ?_
      refine st_iadd dX7_entryBy_83 (by omega) ?_
      refine st_iload dX7_entryBy_84 rfl ?_
      refine st_iconst dX7_entryBy_86 (by decide) ?_
      refine st_isub dX7_entryBy_87 (by omega) ?_
      refine st_iload_n dX7_entryBy_88 rfl ?_
      refine st_isub dX7_entryBy_89 (by omega) ?_
      refine st_isub dX7_entryBy_90 (by omega) ?_
      refine st_iald (j := (4 + (a + b))) dX7_entryBy_91 rfl rfl rfl (by omega) (by omega) ?_
      refine fAt_v (x' := lL M (plc w 1 a b)) (by show M 23 0 _ = M 23 0 _; congr 1; skip) ?_
      refine st_ireturn dX7_entryBy_92 rfl ⟨_, rfl, ⟨(ent_n4 (by omega)).symm, rfl⟩⟩
    · skip
      refine st_tableIn 93 dX7_entryBy_33 (by decide) (by decide) rfl (by decide) ?_
      refine st_aload_n dX7_entryBy_93 rfl ?_
      refine st_getr (i' := 0) dX7_entryBy_94 fl_X7_7 rfl rfl rfl (fun _ => by decide) ?_
      refine st_iload dX7_entryBy_97 rfl ?_
      refine st_iload dX7_entryBy_99 rfl ?_
      refine st_iadd dX7_entryBy_101 (by omega) ?_
      refine st_iald (j := (4 + w - 1 + (if a < b then b - a else a - b))) dX7_entryBy_102 rfl rfl rfl (by split <;> omega) (by split <;> omega) ?_
      refine fAt_v (x' := lL M (plc w 2 a b)) (by show M 23 0 _ = M 23 0 _; congr 1; rw [plc_24 (Or.inl rfl)]; split <;> omega) ?_
      refine st_ireturn dX7_entryBy_103 rfl ⟨_, rfl, ⟨(ent_n4 (by omega)).symm, rfl⟩⟩
    · skip
      refine st_tableIn 104 dX7_entryBy_33 (by decide) (by decide) rfl (by decide) ?_
      refine st_aload_n dX7_entryBy_104 rfl ?_
      refine st_getr (i' := 0) dX7_entryBy_105 fl_X7_7 rfl rfl rfl (fun _ => by decide) ?_
      refine st_iload dX7_entryBy_108 rfl ?_
      refine st_iload_n dX7_entryBy_110 rfl ?_
      refine st_iload_n dX7_entryBy_111 rfl ?_
      refine st_isub dX7_entryBy_112 (by omega) ?_
      refine st_iload dX7_entryBy_113 rfl ?_
      refine st_iadd dX7_entryBy_115 (by omega) ?_
      refine st_iload dX7_entryBy_116 rfl ?_
      refine st_irem dX7_entryBy_118 (by omega) (by omega) ?_
      refine st_iadd dX7_entryBy_119 (by have := modb (x := (a : Int) - (b : Int) + (w : Int)) (p := (w : Int)) (by omega); omega) ?_
      refine st_iald (j := (4 + w - 1 + (if a < b then a + w - b else a - b))) dX7_entryBy_120 rfl rfl rfl (by rw [md3 ha hb]; split <;> omega) (by split <;> omega) ?_
      refine fAt_v (x' := lL M (plc w 3 a b)) (by show M 23 0 _ = M 23 0 _; congr 1; rw [plc_3]; split <;> omega) ?_
      refine st_ireturn dX7_entryBy_121 rfl ⟨_, rfl, ⟨(ent_n4 (by omega)).symm, rfl⟩⟩
    · skip
      refine st_tableOut 122 dX7_entryBy_33 (by decide) (by decide) ?_
      refine st_iload_n dX7_entryBy_122 rfl ?_
      refine st_iload_n dX7_entryBy_123 rfl ?_
      refine st_icmp_ge 154 dX7_entryBy_124 (by decide) (fun h124 => ?_) (fun h124 => ?_)
      · skip
        refine st_aload_n dX7_entryBy_154 rfl ?_
        refine st_getr (i' := 0) dX7_entryBy_155 fl_X7_7 rfl rfl rfl (fun _ => by decide) ?_
        refine st_iload dX7_entryBy_158 rfl ?_
        refine st_iload dX7_entryBy_160 rfl ?_
        refine st_iadd dX7_entryBy_162 (by omega) ?_
        refine st_iald (j := (4 + w - 1 + (a - b))) dX7_entryBy_163 rfl rfl rfl (by omega) (by omega) ?_
        refine fAt_v (x' := lL M (plc w 4 a b)) (by show M 23 0 _ = M 23 0 _; congr 1; rw [plc_24 (Or.inr rfl), if_neg (by omega)]; omega) ?_
        have hpp := hn.2.2.2.2.2.1 (plc w 4 a b) (plc_lt ha hb)
        refine st_ireturn dX7_entryBy_164 rfl ⟨_, rfl, ⟨?_, rfl⟩⟩
        first | exact (ent_4 (by omega) hpp).symm | exact (ent_n4 (by omega)).symm
      · skip
        refine st_aload_n dX7_entryBy_127 rfl ?_
        refine st_getr (i' := 0) dX7_entryBy_128 fl_X7_7 rfl rfl rfl (fun _ => by decide) ?_
        refine st_iconst dX7_entryBy_131 (by decide) ?_
        refine st_iald (j := 2) dX7_entryBy_132 rfl rfl rfl rfl (by decide) ?_
        refine fAt_v (x' := p) hn.2.1 ?_
        refine st_aload_n dX7_entryBy_133 rfl ?_
        refine st_getr (i' := 0) dX7_entryBy_134 fl_X7_7 rfl rfl rfl (fun _ => by decide) ?_
        refine st_iload dX7_entryBy_137 rfl ?_
        refine st_iload dX7_entryBy_139 rfl ?_
        refine st_iadd dX7_entryBy_141 (by omega) ?_
        refine st_iald (j := (4 + w - 1 + (b - a))) dX7_entryBy_142 rfl rfl rfl (by omega) (by omega) ?_
        refine fAt_v (x' := lL M (plc w 4 a b)) (by show M 23 0 _ = M 23 0 _; congr 1; rw [plc_24 (Or.inr rfl), if_pos (by omega)]; omega) ?_
        have hpp := hn.2.2.2.2.2.1 (plc w 4 a b) (plc_lt ha hb)
        refine st_isub dX7_entryBy_143 (by omega) ?_
        refine st_aload_n dX7_entryBy_144 rfl ?_
        refine st_getr (i' := 0) dX7_entryBy_145 fl_X7_7 rfl rfl rfl (fun _ => by decide) ?_
        refine st_iconst dX7_entryBy_148 (by decide) ?_
        refine st_iald (j := 2) dX7_entryBy_149 rfl rfl rfl rfl (by decide) ?_
        refine fAt_v (x' := p) hn.2.1 ?_
        refine st_irem dX7_entryBy_150 (by omega) (by omega) ?_
        refine st_goto 164 dX7_entryBy_151 (by decide) ?_
        refine st_ireturn dX7_entryBy_164 rfl ⟨_, rfl, ⟨?_, rfl⟩⟩
        first | exact (ent_4 (by omega) hpp).symm | exact (ent_n4 (by omega)).symm
set_option maxHeartbeats 4000000 in
set_option maxRecDepth 100000 in
theorem inverseOf_l {g : fG} {M : fM} {w : Nat} {p : Int} (hn : nOk M w p) {v : Int} {b : Nat} (hv : 0 ≤ v ∧ v < p) (hb : (b : Int) < p) (hvb : (v * (b : Int)) % p = 1) :
    ∀ (n c : Nat), c + n = b → 1 ≤ c → (∀ q : Nat, 1 ≤ q → q < c → (v * (q : Int)) % p ≠ 1) → fAt g Y_X7_inverseOf 2 [some (vr 22 0), some (vi v), some (vi (c : Int))] [] M (fI (fun z M' => (0 ≤ z ∧ z < p ∧ (v * z) % p = 1) ∧ M' = M)) := by
  have hw1 := hn.2.2.2.1
  have hp2 := hn.2.2.1.1
  intro n
  induction n with
  | zero =>
    intro c hc hc1 h0
    have e : c = b := by omega
    subst e
    refine st_iload_n dX7_inverseOf_2 rfl ?_
    refine st_iload_n dX7_inverseOf_3 rfl ?_
    refine st_imul dX7_inverseOf_4 (by have := mulb (x := v) (y := (c : Int)) (a := 97) (b := 97) (by omega) (by omega) (by omega) (by omega); omega) ?_
    refine st_aload_n dX7_inverseOf_5 rfl ?_
    refine st_getr (i' := 0) dX7_inverseOf_6 fl_X7_7 rfl rfl rfl (fun _ => by decide) ?_
    refine st_iconst dX7_inverseOf_9 (by decide) ?_
    refine st_iald (j := 2) dX7_inverseOf_10 rfl rfl rfl rfl (by decide) ?_
    refine fAt_v (x' := p) hn.2.1 ?_
    refine st_irem dX7_inverseOf_11 (by have := mulb (x := v) (y := (c : Int)) (a := 97) (b := 97) (by omega) (by omega) (by omega) (by omega); omega) (by omega) ?_
    refine st_iconst dX7_inverseOf_12 (by decide) ?_
    refine st_icmp_eq 22 dX7_inverseOf_13 (by decide) (fun h13 => ?_) (fun h13 => ?_)
    · skip
      refine st_iload_n dX7_inverseOf_22 rfl ?_
      refine st_ireturn dX7_inverseOf_23 rfl ⟨_, rfl, ⟨⟨by omega, by omega, h13⟩, rfl⟩⟩
    · skip
      exact absurd hvb h13
  | succ n ih =>
    intro c hc hc1 h0
    refine st_iload_n dX7_inverseOf_2 rfl ?_
    refine st_iload_n dX7_inverseOf_3 rfl ?_
    refine st_imul dX7_inverseOf_4 (by have := mulb (x := v) (y := (c : Int)) (a := 97) (b := 97) (by omega) (by omega) (by omega) (by omega); omega) ?_
    refine st_aload_n dX7_inverseOf_5 rfl ?_
    refine st_getr (i' := 0) dX7_inverseOf_6 fl_X7_7 rfl rfl rfl (fun _ => by decide) ?_
    refine st_iconst dX7_inverseOf_9 (by decide) ?_
    refine st_iald (j := 2) dX7_inverseOf_10 rfl rfl rfl rfl (by decide) ?_
    refine fAt_v (x' := p) hn.2.1 ?_
    refine st_irem dX7_inverseOf_11 (by have := mulb (x := v) (y := (c : Int)) (a := 97) (b := 97) (by omega) (by omega) (by omega) (by omega); omega) (by omega) ?_
    refine st_iconst dX7_inverseOf_12 (by decide) ?_
    refine st_icmp_eq 22 dX7_inverseOf_13 (by decide) (fun h13 => ?_) (fun h13 => ?_)
    · skip
      refine st_iload_n dX7_inverseOf_22 rfl ?_
      refine st_ireturn dX7_inverseOf_23 rfl ⟨_, rfl, ⟨⟨by omega, by omega, h13⟩, rfl⟩⟩
    · skip
      refine st_iinc (ls' := [some (vr 22 0), some (vi v), some (vi ((c : Int) + 1))]) dX7_inverseOf_16 rfl (by omega) (by decide) rfl rfl ?_
      refine st_goto 2 dX7_inverseOf_19 (by decide) ?_
      exact ih (c + 1) (by omega) (by omega) (fun q h1 h2 => by
        by_cases e : q = c
        · rw [e]; exact h13
        · exact h0 q h1 (by omega))
set_option maxHeartbeats 4000000 in
set_option maxRecDepth 100000 in
theorem m_inverseOf {g : fG} {M : fM} {w : Nat} {p : Int} (hn : nOk M w p) {v : Int} (hv : 0 ≤ v ∧ v < p) (hv0 : v ≠ 0) :
    fCi g Y_X7_inverseOf [vr 22 0, vi v] M (fun z M' => (0 ≤ z ∧ z < p ∧ (v * z) % p = 1) ∧ M' = M) := by
  have hw1 := hn.2.2.2.1
  have hp2 := hn.2.2.1.1
  refine fCi_of _ [some (vr 22 0), some (vi v), none] (by decide) (Nat.le_of_ble_eq_true rfl) rfl (fun h => h) ?_
  refine st_iconst dX7_inverseOf_0 (by decide) ?_
  refine st_istore_n (ls' := [some (vr 22 0), some (vi v), some (vi 1)]) dX7_inverseOf_1 (by decide) rfl rfl ?_
  obtain ⟨b, b1, b2, b3⟩ := inv_of hn.2.2.1 hv.1 hv.2 hv0
  have hb0 : b ≠ 0 := fun q => by
    rw [q, Int.mul_zero, Int.zero_emod] at b3
    omega
  have e : ((b.toNat : Nat) : Int) = b := Int.toNat_of_nonneg b1
  exact inverseOf_l (b := b.toNat) hn hv (by omega) (by rw [e]; exact b3) (b.toNat - 1) 1 (by omega) (Nat.le_refl 1) (fun q h1 h2 => absurd h2 (by omega))
def swC (a b n : Nat) (C : Nat → Nat → Int) : Nat → Nat → Int := fun i j => if j < n then (if i = a then C b j else if i = b then C a j else C i j) else C i j
theorem swp_at (a b : Nat) (C : Nat → Nat → Int) (i j : Nat) : swp a b C i j = if i = a then C b j else if i = b then C a j else C i j := by
  unfold swp
  split
  · rfl
  · split <;> rfl
theorem swC_s {a b n : Nat} {C : Nat → Nat → Int} : (fun i j => if i = b ∧ j = n then C a n else (fun i j => if i = a ∧ j = n then C b n else swC a b n C i j) i j) = swC a b (n + 1) C := by
  funext i j
  show (if i = b ∧ j = n then C a n else if i = a ∧ j = n then C b n else swC a b n C i j) = swC a b (n + 1) C i j
  unfold swC
  grind (splits := 40)
theorem swC_0 (a b : Nat) (C : Nat → Nat → Int) : swC a b 0 C = C := by
  funext i j
  unfold swC
  rw [if_neg (by omega)]
theorem swC_off {a b n i j : Nat} {C : Nat → Nat → Int} (h : n ≤ j) : swC a b n C i j = C i j := by
  unfold swC
  rw [if_neg (by omega)]
set_option maxHeartbeats 4000000 in
set_option maxRecDepth 100000 in
theorem swaps_l {g : fG} {M : fM} {C : Nat → Nat → Int} {a b : Nat} (ha : a < 12) (hb : b < 12) :
    ∀ (n c : Nat), c + n = 13 → fAt g Y_X7_swaps 2 [some (vr 22 0), some (vi (a : Int)), some (vi (b : Int)), some (vi (c : Int)), none] [] (wW M (swC a b c C)) (fN (fun M' => M' = wW M (swp a b C))) := by
  intro n
  induction n with
  | zero =>
    intro c hn
    refine st_iload_n dX7_swaps_2 rfl ?_
    refine st_bipush dX7_swaps_3 (by decide) ?_
    refine st_icmp_ge 62 dX7_swaps_5 (by decide) (fun h5 => ?_) (fun h5 => ?_)
    · skip
      refine st_return dX7_swaps_62 rfl ⟨rfl, by rw [show c = 13 by omega]; exact wW_c (fun i j hj => by rw [swp_at]; unfold swC; rw [if_pos hj])⟩
    · skip
      exact absurd h5 (by omega)
  | succ n ih =>
    intro c hn
    refine st_iload_n dX7_swaps_2 rfl ?_
    refine st_bipush dX7_swaps_3 (by decide) ?_
    refine st_icmp_ge 62 dX7_swaps_5 (by decide) (fun h5 => ?_) (fun h5 => ?_)
    · skip
      exact absurd h5 (by omega)
    · skip
      refine st_aload_n dX7_swaps_8 rfl ?_
      refine st_getr (i' := 0) dX7_swaps_9 fl_X7_13 rfl rfl rfl (fun _ => by decide) ?_
      refine st_bipush dX7_swaps_12 (by decide) ?_
      refine st_iload_n dX7_swaps_14 rfl ?_
      refine st_imul dX7_swaps_15 (by omega) ?_
      refine st_iload_n dX7_swaps_16 rfl ?_
      refine st_iadd dX7_swaps_17 (by omega) ?_
      refine st_iald (j := ((13 * a) + c)) dX7_swaps_18 rfl rfl rfl (by omega) (by omega) ?_
      refine fAt_v (x' := C a c) (by rw [wW_at (by omega)]; exact swC_off (Nat.le_refl c)) ?_
      refine st_istore (ls' := [some (vr 22 0), some (vi (a : Int)), some (vi (b : Int)), some (vi (c : Int)), some (vi (C a c))]) dX7_swaps_19 (by decide) rfl rfl ?_
      refine st_aload_n dX7_swaps_21 rfl ?_
      refine st_getr (i' := 0) dX7_swaps_22 fl_X7_13 rfl rfl rfl (fun _ => by decide) ?_
      refine st_bipush dX7_swaps_25 (by decide) ?_
      refine st_iload_n dX7_swaps_27 rfl ?_
      refine st_imul dX7_swaps_28 (by omega) ?_
      refine st_iload_n dX7_swaps_29 rfl ?_
      refine st_iadd dX7_swaps_30 (by omega) ?_
      refine st_aload_n dX7_swaps_31 rfl ?_
      refine st_getr (i' := 0) dX7_swaps_32 fl_X7_13 rfl rfl rfl (fun _ => by decide) ?_
      refine st_bipush dX7_swaps_35 (by decide) ?_
      refine st_iload_n dX7_swaps_37 rfl ?_
      refine st_imul dX7_swaps_38 (by omega) ?_
      refine st_iload_n dX7_swaps_39 rfl ?_
      refine st_iadd dX7_swaps_40 (by omega) ?_
      refine st_iald (j := ((13 * b) + c)) dX7_swaps_41 rfl rfl rfl (by omega) (by omega) ?_
      refine fAt_v (x' := C b c) (by rw [wW_at (by omega)]; exact swC_off (Nat.le_refl c)) ?_
      refine st_iast (j := ((13 * a) + c)) dX7_swaps_42 rfl rfl rfl (by omega) (by omega) ?_
      refine fAt_m (wW_up _ _ _ _ _ (by omega)) ?_
      refine st_aload_n dX7_swaps_43 rfl ?_
      refine st_getr (i' := 0) dX7_swaps_44 fl_X7_13 rfl rfl rfl (fun _ => by decide) ?_
      refine st_bipush dX7_swaps_47 (by decide) ?_
      refine st_iload_n dX7_swaps_49 rfl ?_
      refine st_imul dX7_swaps_50 (by omega) ?_
      refine st_iload_n dX7_swaps_51 rfl ?_
      refine st_iadd dX7_swaps_52 (by omega) ?_
      refine st_iload dX7_swaps_53 rfl ?_
      refine st_iast (j := ((13 * b) + c)) dX7_swaps_55 rfl rfl rfl (by omega) (by omega) ?_
      refine fAt_m (wW_up _ _ _ _ _ (by omega)) ?_
      refine fAt_m (congrArg (wW M) swC_s) ?_
      refine st_iinc (ls' := [some (vr 22 0), some (vi (a : Int)), some (vi (b : Int)), some (vi ((c : Int) + 1)), some (vi (C a c))]) dX7_swaps_56 rfl (by omega) (by decide) rfl rfl ?_
      refine st_goto 2 dX7_swaps_59 (by decide) ?_
      refine fAt_del 4 rfl ?_
      exact ih (c + 1) (by omega)
set_option maxHeartbeats 4000000 in
set_option maxRecDepth 100000 in
theorem m_swaps {g : fG} {M : fM} {C : Nat → Nat → Int} {a b : Nat} (ha : a < 12) (hb : b < 12) :
    fCv g Y_X7_swaps [vr 22 0, vi (a : Int), vi (b : Int)] (wW M C) (fun M' => M' = wW M (swp a b C)) := by
  refine fCv_of _ [some (vr 22 0), some (vi (a : Int)), some (vi (b : Int)), none, none] (by decide) (Nat.le_of_ble_eq_true rfl) rfl (fun h => h) ?_
  refine st_iconst dX7_swaps_0 (by decide) ?_
  refine st_istore_n (ls' := [some (vr 22 0), some (vi (a : Int)), some (vi (b : Int)), some (vi 0), none]) dX7_swaps_1 (by decide) rfl rfl ?_
  refine fAt_m (congrArg (wW M) (swC_0 a b C).symm) ?_
  exact swaps_l ha hb 13 0 (by omega)
set_option maxHeartbeats 4000000 in
set_option maxRecDepth 100000 in
theorem multiplies_l {g : fG} {M : fM} {C : Nat → Nat → Int} {a : Nat} {p v : Int} (hp : M 23 0 2 = p) (hp2 : 2 ≤ p ∧ p ≤ 97) (ha : a < 12) (hv : 0 ≤ v ∧ v < p) (hr : ∀ j, j < 13 → 0 ≤ C a j ∧ C a j < p) :
    ∀ (n c : Nat), c + n = 13 → fAt g Y_X7_multiplies 2 [some (vr 22 0), some (vi (a : Int)), some (vi v), some (vi (c : Int))] [] (wW M (rSc p C a v c)) (fN (fun M' => M' = wW M (rSc p C a v 13))) := by
  intro n
  induction n with
  | zero =>
    intro c hn
    refine st_iload_n dX7_multiplies_2 rfl ?_
    refine st_bipush dX7_multiplies_3 (by decide) ?_
    refine st_icmp_ge 45 dX7_multiplies_5 (by decide) (fun h5 => ?_) (fun h5 => ?_)
    · skip
      refine st_return dX7_multiplies_45 rfl ⟨rfl, by rw [show c = 13 by omega]⟩
    · skip
      exact absurd h5 (by omega)
  | succ n ih =>
    intro c hn
    refine st_iload_n dX7_multiplies_2 rfl ?_
    refine st_bipush dX7_multiplies_3 (by decide) ?_
    refine st_icmp_ge 45 dX7_multiplies_5 (by decide) (fun h5 => ?_) (fun h5 => ?_)
    · skip
      exact absurd h5 (by omega)
    · skip
      refine st_aload_n dX7_multiplies_8 rfl ?_
      refine st_getr (i' := 0) dX7_multiplies_9 fl_X7_13 rfl rfl rfl (fun _ => by decide) ?_
      refine st_bipush dX7_multiplies_12 (by decide) ?_
      refine st_iload_n dX7_multiplies_14 rfl ?_
      refine st_imul dX7_multiplies_15 (by omega) ?_
      refine st_iload_n dX7_multiplies_16 rfl ?_
      refine st_iadd dX7_multiplies_17 (by omega) ?_
      refine st_aload_n dX7_multiplies_18 rfl ?_
      refine st_getr (i' := 0) dX7_multiplies_19 fl_X7_13 rfl rfl rfl (fun _ => by decide) ?_
      refine st_bipush dX7_multiplies_22 (by decide) ?_
      refine st_iload_n dX7_multiplies_24 rfl ?_
      refine st_imul dX7_multiplies_25 (by omega) ?_
      refine st_iload_n dX7_multiplies_26 rfl ?_
      refine st_iadd dX7_multiplies_27 (by omega) ?_
      refine st_iald (j := ((13 * a) + c)) dX7_multiplies_28 rfl rfl rfl (by omega) (by omega) ?_
      refine fAt_v (x' := C a c) (by rw [wW_at (by omega)]; exact rSc_ne (by omega)) ?_
      have hac := hr c (by omega)
      have hm := mulb (x := C a c) (y := v) (a := 97) (b := 97) hac.1 hv.1 (by omega) (by omega)
      refine st_iload_n dX7_multiplies_29 rfl ?_
      refine st_imul dX7_multiplies_30 (by omega) ?_
      refine st_aload_n dX7_multiplies_31 rfl ?_
      refine st_getr (i' := 0) dX7_multiplies_32 fl_X7_7 rfl rfl rfl (fun _ => by decide) ?_
      refine st_iconst dX7_multiplies_35 (by decide) ?_
      refine st_iald (j := 2) dX7_multiplies_36 rfl rfl rfl rfl (by decide) ?_
      refine fAt_v (x' := p) hp ?_
      refine st_irem dX7_multiplies_37 (by omega) (by omega) ?_
      refine st_iast (j := ((13 * a) + c)) dX7_multiplies_38 rfl rfl rfl (by omega) (by omega) ?_
      refine fAt_m (wW_up _ _ _ _ _ (by omega)) ?_
      refine fAt_m (congrArg (wW M) (rSc_s p C a v c)) ?_
      refine st_iinc (ls' := [some (vr 22 0), some (vi (a : Int)), some (vi v), some (vi ((c : Int) + 1))]) dX7_multiplies_39 rfl (by omega) (by decide) rfl rfl ?_
      refine st_goto 2 dX7_multiplies_42 (by decide) ?_
      exact ih (c + 1) (by omega)
set_option maxHeartbeats 4000000 in
set_option maxRecDepth 100000 in
theorem m_multiplies {g : fG} {M : fM} {C : Nat → Nat → Int} {a : Nat} {p v : Int} (hp : M 23 0 2 = p) (hp2 : 2 ≤ p ∧ p ≤ 97) (ha : a < 12) (hv : 0 ≤ v ∧ v < p) (hr : ∀ j, j < 13 → 0 ≤ C a j ∧ C a j < p) :
    fCv g Y_X7_multiplies [vr 22 0, vi (a : Int), vi v] (wW M C) (fun M' => M' = wW M (rSc p C a v 13)) := by
  refine fCv_of _ [some (vr 22 0), some (vi (a : Int)), some (vi v), none] (by decide) (Nat.le_of_ble_eq_true rfl) rfl (fun h => h) ?_
  refine st_iconst dX7_multiplies_0 (by decide) ?_
  refine st_istore_n (ls' := [some (vr 22 0), some (vi (a : Int)), some (vi v), some (vi 0)]) dX7_multiplies_1 (by decide) rfl rfl ?_
  refine fAt_m (congrArg (wW M) (rSc_0 p C a v).symm) ?_
  exact multiplies_l hp hp2 ha hv hr 13 0 (by omega)
theorem rTk_s0 (p : Int) (C : Nat → Nat → Int) (s q : Nat) (t : Int) (n : Nat) : (fun i j => if i = s ∧ j = n then (C s n + (p - t) * C q n) % p else rTk p C s q t 0 n i j) = rTk p C s q t 0 (n + 1) := by
  funext i j
  unfold rTk
  by_cases e : i = s ∧ j = n
  · rw [if_pos e, if_pos ⟨e.1, by omega, by omega⟩, e.2]
  · rw [if_neg e]
    by_cases e2 : i = s ∧ 0 ≤ j ∧ j < n
    · rw [if_pos e2, if_pos ⟨e2.1, by omega, by omega⟩]
    · rw [if_neg e2, if_neg (by omega)]
theorem rTk_00 (p : Int) (C : Nat → Nat → Int) (s q : Nat) (t : Int) : rTk p C s q t 0 0 = C := by
  funext i j
  exact rTk_ne (by omega)
set_option maxHeartbeats 4000000 in
set_option maxRecDepth 100000 in
theorem takes_l {g : fG} {M : fM} {C : Nat → Nat → Int} {s q : Nat} {p t : Int} (hp : M 23 0 2 = p) (hp2 : 2 ≤ p ∧ p ≤ 97) (hs : s < 12) (hq : q < 12) (ht : 0 ≤ t ∧ t < p) (hr : ∀ j, j < 13 → 0 ≤ C s j ∧ C s j < p) (ho : ∀ j, j < 13 → 0 ≤ C q j ∧ C q j < p) :
    ∀ (n c : Nat), c + n = 13 → fAt g Y_X7_takes 11 [some (vr 22 0), some (vi (s : Int)), some (vi (q : Int)), some (vi t), some (vi p), some (vi (c : Int))] [] (wW M (rTk p C s q t 0 c)) (fN (fun M' => M' = wW M (rTk p C s q t 0 13))) := by
  intro n
  induction n with
  | zero =>
    intro c hn
    refine st_iload dX7_takes_11 rfl ?_
    refine st_bipush dX7_takes_13 (by decide) ?_
    refine st_icmp_ge 69 dX7_takes_15 (by decide) (fun h15 => ?_) (fun h15 => ?_)
    · skip
      refine st_return dX7_takes_69 rfl ⟨rfl, by rw [show c = 13 by omega]⟩
    · skip
      exact absurd h15 (by omega)
  | succ n ih =>
    intro c hn
    refine st_iload dX7_takes_11 rfl ?_
    refine st_bipush dX7_takes_13 (by decide) ?_
    refine st_icmp_ge 69 dX7_takes_15 (by decide) (fun h15 => ?_) (fun h15 => ?_)
    · skip
      exact absurd h15 (by omega)
    · skip
      refine st_aload_n dX7_takes_18 rfl ?_
      refine st_getr (i' := 0) dX7_takes_19 fl_X7_13 rfl rfl rfl (fun _ => by decide) ?_
      refine st_bipush dX7_takes_22 (by decide) ?_
      refine st_iload_n dX7_takes_24 rfl ?_
      refine st_imul dX7_takes_25 (by omega) ?_
      refine st_iload dX7_takes_26 rfl ?_
      refine st_iadd dX7_takes_28 (by omega) ?_
      refine st_aload_n dX7_takes_29 rfl ?_
      refine st_getr (i' := 0) dX7_takes_30 fl_X7_13 rfl rfl rfl (fun _ => by decide) ?_
      refine st_bipush dX7_takes_33 (by decide) ?_
      refine st_iload_n dX7_takes_35 rfl ?_
      refine st_imul dX7_takes_36 (by omega) ?_
      refine st_iload dX7_takes_37 rfl ?_
      refine st_iadd dX7_takes_39 (by omega) ?_
      refine st_iald (j := ((13 * s) + c)) dX7_takes_40 rfl rfl rfl (by omega) (by omega) ?_
      refine fAt_v (x' := C s c) (by rw [wW_at (by omega)]; exact rTk_ne (by omega)) ?_
      have hac := hr c (by omega)
      refine st_iload dX7_takes_41 rfl ?_
      refine st_iload_n dX7_takes_43 rfl ?_
      refine st_isub dX7_takes_44 (by omega) ?_
      refine st_aload_n dX7_takes_45 rfl ?_
      refine st_getr (i' := 0) dX7_takes_46 fl_X7_13 rfl rfl rfl (fun _ => by decide) ?_
      refine st_bipush dX7_takes_49 (by decide) ?_
      refine st_iload_n dX7_takes_51 rfl ?_
      refine st_imul dX7_takes_52 (by omega) ?_
      refine st_iload dX7_takes_53 rfl ?_
      refine st_iadd dX7_takes_55 (by omega) ?_
      refine st_iald (j := ((13 * q) + c)) dX7_takes_56 rfl rfl rfl (by omega) (by omega) ?_
      refine fAt_v (x' := C q c) (by rw [wW_at (by omega)]; exact rTk_ne (by omega)) ?_
      have hqc := ho c (by omega)
      have hm := mulb (x := p - t) (y := C q c) (a := 97) (b := 97) (by omega) hqc.1 (by omega) (by omega)
      refine st_imul dX7_takes_57 (by omega) ?_
      refine st_iadd dX7_takes_58 (by omega) ?_
      refine st_iload dX7_takes_59 rfl ?_
      refine st_irem dX7_takes_61 (by omega) (by omega) ?_
      refine st_iast (j := ((13 * s) + c)) dX7_takes_62 rfl rfl rfl (by omega) (by omega) ?_
      refine fAt_m (wW_up _ _ _ _ _ (by omega)) ?_
      refine fAt_m (congrArg (wW M) (rTk_s0 p C s q t c)) ?_
      refine st_iinc (ls' := [some (vr 22 0), some (vi (s : Int)), some (vi (q : Int)), some (vi t), some (vi p), some (vi ((c : Int) + 1))]) dX7_takes_63 rfl (by omega) (by decide) rfl rfl ?_
      refine st_goto 11 dX7_takes_66 (by decide) ?_
      exact ih (c + 1) (by omega)
set_option maxHeartbeats 4000000 in
set_option maxRecDepth 100000 in
theorem m_takes {g : fG} {M : fM} {C : Nat → Nat → Int} {s q : Nat} {p t : Int} (hp : M 23 0 2 = p) (hp2 : 2 ≤ p ∧ p ≤ 97) (hs : s < 12) (hq : q < 12) (ht : 0 ≤ t ∧ t < p) (hr : ∀ j, j < 13 → 0 ≤ C s j ∧ C s j < p) (ho : ∀ j, j < 13 → 0 ≤ C q j ∧ C q j < p) :
    fCv g Y_X7_takes [vr 22 0, vi (s : Int), vi (q : Int), vi t] (wW M C) (fun M' => M' = wW M (rTk p C s q t 0 13)) := by
  refine fCv_of _ [some (vr 22 0), some (vi (s : Int)), some (vi (q : Int)), some (vi t), none, none] (by decide) (Nat.le_of_ble_eq_true rfl) rfl (fun h => h) ?_
  refine st_aload_n dX7_takes_0 rfl ?_
  refine st_getr (i' := 0) dX7_takes_1 fl_X7_7 rfl rfl rfl (fun _ => by decide) ?_
  refine st_iconst dX7_takes_4 (by decide) ?_
  refine st_iald (j := 2) dX7_takes_5 rfl rfl rfl rfl (by decide) ?_
  refine fAt_v (x' := p) hp ?_
  refine st_istore (ls' := [some (vr 22 0), some (vi (s : Int)), some (vi (q : Int)), some (vi t), some (vi p), none]) dX7_takes_6 (by decide) rfl rfl ?_
  refine st_iconst dX7_takes_8 (by decide) ?_
  refine st_istore (ls' := [some (vr 22 0), some (vi (s : Int)), some (vi (q : Int)), some (vi t), some (vi p), some (vi 0)]) dX7_takes_9 (by decide) rfl rfl ?_
  refine fAt_m (congrArg (wW M) (rTk_00 p C s q t).symm) ?_
  exact takes_l hp hp2 hs hq ht hr ho 13 0 (by omega)
set_option maxHeartbeats 4000000 in
set_option maxRecDepth 100000 in
theorem pivot_l {g : fG} {M : fM} {C : Nat → Nat → Int} {f n c : Nat} (hn12 : n ≤ 12) (hc : c < 13) :
    ∀ (m : Nat) (z x : Int), x = ((f + m : Nat) : Int) - 1 ∧ (f + m ≤ n ∨ m = 0) → ((z = -4 ∧ ∀ r, f + m ≤ r → r < n → C r c = 0) ∨ ∃ r, z = ((r : Nat) : Int) ∧ f + m ≤ r ∧ r < n ∧ C r c ≠ 0 ∧ ∀ q, f + m ≤ q → q < r → C q c = 0) → fAt g Y_X7_pivot 9 [some (vr 22 0), some (vi (f : Int)), some (vi (n : Int)), some (vi (c : Int)), some (vi z), some (vi x)] [] (wW M C) (fI (fun z M' => ((z = -4 ∧ ∀ r, f ≤ r → r < n → C r c = 0) ∨ ∃ r, z = ((r : Nat) : Int) ∧ f ≤ r ∧ r < n ∧ C r c ≠ 0 ∧ ∀ q, f ≤ q → q < r → C q c = 0) ∧ M' = wW M C)) := by
  intro m
  induction m with
  | zero =>
    intro z x hx hz
    refine st_iload dX7_pivot_9 rfl ?_
    refine st_iload_n dX7_pivot_11 rfl ?_
    refine st_icmp_lt 45 dX7_pivot_12 (by decide) (fun h12 => ?_) (fun h12 => ?_)
    · skip
      refine st_iload dX7_pivot_45 rfl ?_
      refine st_ireturn dX7_pivot_47 rfl ⟨_, rfl, ⟨by rw [Nat.add_zero] at hz; exact hz, rfl⟩⟩
    · skip
      exact absurd h12 (by omega)
  | succ m ih =>
    intro z x hx hz
    have e : x = ((f + m : Nat) : Int) := by omega
    subst e
    refine st_iload dX7_pivot_9 rfl ?_
    refine st_iload_n dX7_pivot_11 rfl ?_
    refine st_icmp_lt 45 dX7_pivot_12 (by decide) (fun h12 => ?_) (fun h12 => ?_)
    · skip
      exact absurd h12 (by omega)
    · skip
      refine st_aload_n dX7_pivot_15 rfl ?_
      refine st_getr (i' := 0) dX7_pivot_16 fl_X7_13 rfl rfl rfl (fun _ => by decide) ?_
      refine st_bipush dX7_pivot_19 (by decide) ?_
      refine st_iload dX7_pivot_21 rfl ?_
      refine st_imul dX7_pivot_23 (by omega) ?_
      refine st_iload_n dX7_pivot_24 rfl ?_
      refine st_iadd dX7_pivot_25 (by omega) ?_
      refine st_iald (j := ((13 * (f + m)) + c)) dX7_pivot_26 rfl rfl rfl (by omega) (by omega) ?_
      refine fAt_v (x' := C (f + m) c) (wW_at hc) ?_
      refine st_if_eq 35 dX7_pivot_27 (by decide) (fun h27 => ?_) (fun h27 => ?_)
      · skip
        refine st_iload dX7_pivot_35 rfl ?_
        refine st_istore (ls' := [some (vr 22 0), some (vi (f : Int)), some (vi (n : Int)), some (vi (c : Int)), some (vi z), some (vi (((f + m) : Nat) : Int))]) dX7_pivot_37 (by decide) rfl rfl ?_
        refine st_iinc (ls' := [some (vr 22 0), some (vi (f : Int)), some (vi (n : Int)), some (vi (c : Int)), some (vi z), some (vi ((((f + m) : Nat) : Int) + (-1)))]) dX7_pivot_39 rfl (by omega) (by decide) rfl rfl ?_
        refine st_goto 9 dX7_pivot_42 (by decide) ?_
        refine ih _ _ (by omega) ?_
        first
        | exact Or.inr ⟨f + m, by omega, by omega, by omega, h27, fun q h1 h2 => absurd h2 (by omega)⟩
        | (rcases hz with ⟨z1, z2⟩ | ⟨r, z1, z2, z3, z4, z5⟩
           · exact Or.inl ⟨z1, fun r h1 h2 => by
               by_cases e : r = f + m
               · rw [e]; exact h27
               · exact z2 r (by omega) h2⟩
           · exact Or.inr ⟨r, z1, by omega, z3, z4, fun q h1 h2 => by
               by_cases e : q = f + m
               · rw [e]; exact h27
               · exact z5 q (by omega) h2⟩)
      · skip
        refine st_iload dX7_pivot_30 rfl ?_
        refine st_goto 37 dX7_pivot_32 (by decide) ?_
        refine st_istore (ls' := [some (vr 22 0), some (vi (f : Int)), some (vi (n : Int)), some (vi (c : Int)), some (vi (((f + m) : Nat) : Int)), some (vi (((f + m) : Nat) : Int))]) dX7_pivot_37 (by decide) rfl rfl ?_
        refine st_iinc (ls' := [some (vr 22 0), some (vi (f : Int)), some (vi (n : Int)), some (vi (c : Int)), some (vi (((f + m) : Nat) : Int)), some (vi ((((f + m) : Nat) : Int) + (-1)))]) dX7_pivot_39 rfl (by omega) (by decide) rfl rfl ?_
        refine st_goto 9 dX7_pivot_42 (by decide) ?_
        refine ih _ _ (by omega) ?_
        first
        | exact Or.inr ⟨f + m, by omega, by omega, by omega, h27, fun q h1 h2 => absurd h2 (by omega)⟩
        | (rcases hz with ⟨z1, z2⟩ | ⟨r, z1, z2, z3, z4, z5⟩
           · exact Or.inl ⟨z1, fun r h1 h2 => by
               by_cases e : r = f + m
               · rw [e]; exact h27
               · exact z2 r (by omega) h2⟩
           · exact Or.inr ⟨r, z1, by omega, z3, z4, fun q h1 h2 => by
               by_cases e : q = f + m
               · rw [e]; exact h27
               · exact z5 q (by omega) h2⟩)
set_option maxHeartbeats 4000000 in
set_option maxRecDepth 100000 in
theorem m_pivot {g : fG} {M : fM} {C : Nat → Nat → Int} {f n c : Nat} (hn12 : n ≤ 12) (hc : c < 13) (hfn : f ≤ n) :
    fCi g Y_X7_pivot [vr 22 0, vi (f : Int), vi (n : Int), vi (c : Int)] (wW M C) (fun z M' => ((z = -4 ∧ ∀ r, f ≤ r → r < n → C r c = 0) ∨ ∃ r, z = ((r : Nat) : Int) ∧ f ≤ r ∧ r < n ∧ C r c ≠ 0 ∧ ∀ q, f ≤ q → q < r → C q c = 0) ∧ M' = wW M C) := by
  refine fCi_of _ [some (vr 22 0), some (vi (f : Int)), some (vi (n : Int)), some (vi (c : Int)), none, none] (by decide) (Nat.le_of_ble_eq_true rfl) rfl (fun h => h) ?_
  refine st_bipush dX7_pivot_0 (by decide) ?_
  refine st_istore (ls' := [some (vr 22 0), some (vi (f : Int)), some (vi (n : Int)), some (vi (c : Int)), some (vi (-4)), none]) dX7_pivot_2 (by decide) rfl rfl ?_
  refine st_iload_n dX7_pivot_4 rfl ?_
  refine st_iconst dX7_pivot_5 (by decide) ?_
  refine st_isub dX7_pivot_6 (by omega) ?_
  refine st_istore (ls' := [some (vr 22 0), some (vi (f : Int)), some (vi (n : Int)), some (vi (c : Int)), some (vi (-4)), some (vi ((n : Int) - 1))]) dX7_pivot_7 (by decide) rfl rfl ?_
  exact pivot_l hn12 hc (n - f) _ _ (by omega) (Or.inl ⟨rfl, fun r h1 h2 => absurd h2 (by omega)⟩)
