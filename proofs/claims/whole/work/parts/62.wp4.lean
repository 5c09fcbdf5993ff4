/-! ===== odds, told ===== -/
theorem WpG_11 {M : fM} {w : Nat} {p kd : Int} {pl : Nat → Nat} {l : Nat} (h : WpG M w p kd pl l) : l ≤ 11 := by
  have h1 := cn_le (loK kd w) (M 3 20) (2 * w - 1)
  have h2 := h.2.1
  have h3 := h.2.2.2.2
  omega
def WsS (p : Int) (w : Nat) (kd : Int) (L : Nat → Int) (c : Nat) (y z : Int) : Prop := ∃ (L' : Nat → Int) (pl : Nat → Nat) (l : Nat), (∀ j, j < 2 * w - 1 → L j = L' j) ∧ l = cn (loK kd w) L' (2 * w - 1) ∧ plS (loK kd w) L' (2 * w - 1) pl ∧ z = (((if y = 0 then Gc (zf p w kd) c pl l L' else 10 ^ l) / Nat.gcd (Gc (zf p w kd) c pl l L') (10 ^ l) : Nat) : Int)
def WmS (p : Int) (w : Nat) (kd : Int) (L : Nat → Int) (c : Nat) (y z : Int) : Prop := z = (((if y = 0 then Gc (zf p w kd) c (fun i => i) (2 * w - 1) L else 10 ^ (2 * w - 1)) / Nat.gcd (Gc (zf p w kd) c (fun i => i) (2 * w - 1) L) (10 ^ (2 * w - 1)) : Nat) : Int)
theorem WsS_one {p : Int} {w : Nat} {kd : Int} {L L2 : Nat → Int} {c : Nat} {y z z' : Int} (hc : c ≤ 10) (hk : 0 ≤ kd ∧ kd ≤ 4) (e : ∀ j, j < 2 * w - 1 → L2 j = L j) (h : WsS p w kd L c y z) (h' : WmS p w kd L2 c y z') : z = z' := by
  obtain ⟨L', pl, l, h1, h2, h3, rfl⟩ := h
  rw [h']
  congr 1
  have hcl := cn_le (loK kd w) L' (2 * w - 1)
  have hm := G_main (f := zf p w kd) hc (zf_c (kd5 hk)) h3 (2 * w - 1) L' (Nat.le_refl _) (fun j _ => rfl)
  have hg : Gc (zf p w kd) c (fun i => i) (2 * w - 1) L2 = Gc (zf p w kd) c (fun i => i) (2 * w - 1) L' := Gc_congr (zf_c (kd5 hk)) _ _ _ (fun j _ hj => (e j hj).trans (h1 j hj))
  rw [hg, hm, ← h2]
  have ht : 0 < 10 ^ (2 * w - 1 - l) := Nat.pow_pos (by decide)
  have h10 : 10 ^ (2 * w - 1) = 10 ^ l * 10 ^ (2 * w - 1 - l) := by rw [← Nat.pow_add]; congr 1; omega
  rw [h10, Nat.mul_comm (10 ^ (2 * w - 1 - l)) (Gc _ _ _ _ _)]
  by_cases q : y = 0
  · rw [if_pos q, if_pos q]
    exact (frac_same ht _ (Or.inl rfl)).symm
  · rw [if_neg q, if_neg q]
    exact (frac_same ht _ (Or.inr rfl)).symm
theorem vS_r (M : fM) : vS M M := fun _ _ _ _ _ _ _ _ _ _ _ => rfl
theorem p10_11 {l : Nat} (h : l ≤ 11) : 0 < 10 ^ l ∧ 10 ^ l ≤ 100000000000 := by
  have h2 : (10 : Nat) ^ l ≤ 10 ^ 11 := Nat.pow_le_pow_right (by decide) h
  have h4 : (10 : Nat) ^ 11 = 100000000000 := by decide
  exact ⟨Nat.pow_pos (by decide), by omega⟩
set_option maxHeartbeats 4000000 in
set_option maxRecDepth 100000 in
theorem wiped_2 {g : fG} {N : fM} {w c l : Nat} {p kd y : Int} {pl : Nat → Nat} {L : Nat → Int} (hc : c ≤ 10) (hG : WpG N w p kd pl l) (hag : ∀ j, j < 2 * w - 1 → L j = N 3 20 j) : fAt g Y_X6_wiped 49 [some (vr 0 0), some (vi (c : Int)), some (vi y), none, none, none, none, none, none] [] N (fL (fun z M' => WsS p w kd L c y z ∧ M' = N)) := by
  have hl11 := WpG_11 hG
  have h10 := p10_11 hl11
  refine st_aload_n dX6_wiped_49 rfl ?_
  refine st_getr (i' := 0) dX6_wiped_50 fl_X6_47 rfl rfl rfl (fun _ => by decide) ?_
  refine st_iload_n dX6_wiped_53 rfl ?_
  refine st_callVl [vi (c : Int)] [] dX6_wiped_54 vl_X6_216 rfl rfl rfl rfl (Nat.le_of_ble_eq_true rfl) (by decide) (c_weighted (M := N) (c := c) (l := l) (Zn := cz (zf p w kd) pl l (N 3 20) (2 ^ l)) hc hl11 hG.1 (fun v hv => ⟨hG.2.2.2.1 v (by omega), Nat.le_trans (cz_le (zf_1 p w kd)) (pw11 hl11)⟩)) (fun zw Mw qw => ?_)
  obtain ⟨rfl, q⟩ := qw
  subst Mw
  refine fAt_vl (x' := (((Gc (zf p w kd) c pl l (N 3 20)) : Nat) : Int)) (congrArg (fun x : Nat => (x : Int)) (weigh hl11)) ?_
  refine st_lstore_n (ls' := [some (vr 0 0), some (vi (c : Int)), some (vi y), some (vl (((Gc (zf p w kd) c pl l (N 3 20)) : Nat) : Int)), none, none, none, none, none]) dX6_wiped_57 (by decide) rfl rfl ?_
  refine st_ldc2 (v := 10) (10) dX6_wiped_58 (ftb_in 594 (by decide +kernel) rfl) (by decide +kernel) ?_
  refine st_aload_n dX6_wiped_61 rfl ?_
  refine st_getr (i' := 0) dX6_wiped_62 fl_X6_47 rfl rfl rfl (fun _ => by decide) ?_
  refine st_get dX6_wiped_65 fl_X6_222 rfl rfl rfl ?_
  refine fAt_v (x' := (l : Int)) hG.1 ?_
  refine st_callSl [vl 10, vi (l : Int)] [] dX6_wiped_68 sl_X6_225 rfl rfl (Nat.le_of_ble_eq_true rfl) (by decide) (c_power (x := 10) (n := l) (by omega) (fun e he => p10r (by omega) (by omega))) (fun zp Mp qp => ?_)
  obtain ⟨rfl, q⟩ := qp
  subst Mp
  refine fAt_vl (x' := ((10 ^ l : Nat) : Int)) (by rw [Int.natCast_pow]; rfl) ?_
  refine st_lstore (ls' := [some (vr 0 0), some (vi (c : Int)), some (vi y), some (vl (((Gc (zf p w kd) c pl l (N 3 20)) : Nat) : Int)), none, some (vl ((10 ^ l : Nat) : Int)), none, none, none]) dX6_wiped_71 (by decide) rfl rfl ?_
  refine st_lload_n dX6_wiped_73 rfl ?_
  refine st_lload dX6_wiped_74 rfl ?_
  refine st_callSl [vl (((Gc (zf p w kd) c pl l (N 3 20)) : Nat) : Int), vl ((10 ^ l : Nat) : Int)] [] dX6_wiped_76 sl_X6_229 rfl rfl (Nat.le_of_ble_eq_true rfl) (by decide) (c_greatestShared (a := (Gc (zf p w kd) c pl l (N 3 20))) (b := 10 ^ l) h10.1 (Gc_le hc (zf_1 p w kd) l _) h10.2) (fun zg Mg qg => ?_)
  obtain ⟨rfl, q⟩ := qg
  subst Mg
  have hg0 := Nat.gcd_pos_of_pos_right (Gc (zf p w kd) c pl l (N 3 20)) h10.1
  refine st_lstore (ls' := [some (vr 0 0), some (vi (c : Int)), some (vi y), some (vl (((Gc (zf p w kd) c pl l (N 3 20)) : Nat) : Int)), none, some (vl ((10 ^ l : Nat) : Int)), none, some (vl ((Nat.gcd (Gc (zf p w kd) c pl l (N 3 20)) (10 ^ l) : Nat) : Int)), none]) dX6_wiped_79 (by decide) rfl rfl ?_
  refine st_iload_n dX6_wiped_81 rfl ?_
  refine st_if_ne 89 dX6_wiped_82 (by decide) (fun h82 => ?_) (fun h82 => ?_)
  · skip
    refine st_lload dX6_wiped_89 rfl ?_
    refine st_lload dX6_wiped_91 rfl ?_
    refine st_ldiv dX6_wiped_93 (by omega) (by omega) ?_
    refine st_lreturn dX6_wiped_94 rfl ⟨_, rfl, ⟨⟨N 3 20, pl, l, hag, hG.2.1, hG.2.2.1, ?_⟩, rfl⟩⟩
    first
    | (rw [if_pos h82, Int.natCast_ediv]; done)
    | rw [if_neg h82, Int.natCast_ediv]
  · skip
    refine st_lload_n dX6_wiped_85 rfl ?_
    refine st_goto 91 dX6_wiped_86 (by decide) ?_
    refine st_lload dX6_wiped_91 rfl ?_
    refine st_ldiv dX6_wiped_93 (by omega) (by omega) ?_
    refine st_lreturn dX6_wiped_94 rfl ⟨_, rfl, ⟨⟨N 3 20, pl, l, hag, hG.2.1, hG.2.2.1, ?_⟩, rfl⟩⟩
    first
    | (rw [if_pos h82, Int.natCast_ediv]; done)
    | rw [if_neg h82, Int.natCast_ediv]
set_option maxHeartbeats 4000000 in
set_option maxRecDepth 100000 in
theorem c_wiped {g : fG} {M : fM} {w : Nat} {p : Int} (hx : xOk M w p) {c y : Int} (hW : WpOk M) :
    fCl g Y_X6_wiped [vr 0 0, vi c, vi y] M (fun z M' => ((¬ ((0 ≤ c ∧ c ≤ 10) ∧ (y = 0 ∨ y = 1)) ∧ z = -1) ∨ (((0 ≤ c ∧ c ≤ 10) ∧ (y = 0 ∨ y = 1)) ∧ WsS p w (M 2 0 1) (M 3 0) c.toNat y z)) ∧ vS M M' ∧ gI M' ∧ WpOk M') := by
  have hw1 := hx.2.2.1.2.1
  have hp2 := hx.2.1.1
  refine fCl_of _ [some (vr 0 0), some (vi c), some (vi y), none, none, none, none, none, none] (by decide) (Nat.le_of_ble_eq_true rfl) rfl (fun h => h) ?_
  refine st_iload_n dX6_wiped_0 rfl ?_
  refine st_if_lt 17 dX6_wiped_1 (by decide) (fun h1 => ?_) (fun h1 => ?_)
  · skip
    refine st_ldc2 (v := -1) (-1) dX6_wiped_17 (ftb_in 528 (by decide +kernel) rfl) (by decide +kernel) ?_
    refine st_lreturn dX6_wiped_20 rfl ⟨_, rfl, ⟨Or.inl ⟨by omega, rfl⟩, vS_r _, hx.2.2.2, hW⟩⟩
  · skip
    refine st_iload_n dX6_wiped_4 rfl ?_
    refine st_bipush dX6_wiped_5 (by decide) ?_
    refine st_icmp_gt 17 dX6_wiped_7 (by decide) (fun h7 => ?_) (fun h7 => ?_)
    · skip
      refine st_ldc2 (v := -1) (-1) dX6_wiped_17 (ftb_in 528 (by decide +kernel) rfl) (by decide +kernel) ?_
      refine st_lreturn dX6_wiped_20 rfl ⟨_, rfl, ⟨Or.inl ⟨by omega, rfl⟩, vS_r _, hx.2.2.2, hW⟩⟩
    · skip
      refine st_iload_n dX6_wiped_10 rfl ?_
      refine st_callSi [vi y] [] dX6_wiped_11 sl_X6_194 rfl rfl (Nat.le_of_ble_eq_true rfl) (by decide) (c_isHalf) (fun za Ma qa => ?_)
      obtain ⟨qa, rfl⟩ := qa
      rcases qa with ⟨rfl, aa⟩ | ⟨rfl, aa⟩
      · skip
        refine st_if_ne 21 dX6_wiped_14 (by decide) (fun h14 => ?_) (fun h14 => ?_)
        · skip
          refine st_aload_n dX6_wiped_21 rfl ?_
          refine st_getr (i' := 0) dX6_wiped_22 fl_X6_47 rfl rfl rfl (fun _ => by decide) ?_
          refine st_aload_n dX6_wiped_25 rfl ?_
          refine st_getr (i' := 0) dX6_wiped_26 fl_X6_12 rfl rfl rfl (fun _ => by decide) ?_
          refine st_getr (i' := 0) dX6_wiped_29 fl_X6_76 rfl rfl rfl (fun _ => by decide) ?_
          refine st_aload_n dX6_wiped_32 rfl ?_
          refine st_getr (i' := 0) dX6_wiped_33 fl_X6_12 rfl rfl rfl (fun _ => by decide) ?_
          refine st_get dX6_wiped_36 fl_X6_72 rfl rfl rfl ?_
          refine fAt_v (x' := p) hx.1 ?_
          refine st_callVi [vr 2 0, vi p] [] dX6_wiped_39 vl_X6_209 rfl rfl rfl rfl (Nat.le_of_ble_eq_true rfl) (by decide) (c_isOf (w := w) hx.2.2.1.1 hx.2.2.1.2.1) (fun zo Mo qo => ?_)
          obtain ⟨qo, q⟩ := qo
          subst Mo
          rcases qo with ⟨rfl, o1, o2, o3, o4⟩ | rfl
          · skip
            have hG : ∃ pl l, WpG Ma w p (Ma 2 0 1) pl l := by
              rcases hW with h | ⟨w', pl, l, h1, h2⟩
              · exact absurd h (by rw [← o1]; omega)
              · have ew : w' = w := by
                  have := hx.2.2.1.1
                  omega
                rw [← o1, ← o3, ew] at h2
                exact ⟨pl, l, h2⟩
            obtain ⟨pl, l, hG⟩ := hG
            refine st_if_ne 49 dX6_wiped_42 (by decide) (fun h42 => ?_) (fun h42 => ?_)
            · skip
              refine fAt_ls (ls' := [some (vr 0 0), some (vi ((c.toNat : Nat) : Int)), some (vi y), none, none, none, none, none, none]) (by rw [show ((c.toNat : Nat) : Int) = c by omega]) ?_
              refine fAt_q (fun r M' h => ?_) (wiped_2 (N := Ma) (c := c.toNat) (by omega) hG o4)
              obtain ⟨z, e, h1, h2⟩ := h
              subst h2
              exact ⟨z, e, Or.inr ⟨by omega, h1⟩, vS_r _, hx.2.2.2, hW⟩
            · skip
              exact absurd h42 (by decide)
          · skip
            refine st_if_ne 49 dX6_wiped_42 (by decide) (fun h42 => ?_) (fun h42 => ?_)
            · skip
              exact absurd rfl h42
            · skip
              refine st_aload_n dX6_wiped_45 rfl ?_
              refine st_callVv [] [] dX6_wiped_46 vl_X6_213 rfl rfl rfl rfl (Nat.le_of_ble_eq_true rfl) (by decide) (c_countWipes hx) (fun Mc qc => ?_)
              obtain ⟨c1, c2, c3, c4, c5, c6, pl, l, hG⟩ := qc
              refine fAt_ls (ls' := [some (vr 0 0), some (vi ((c.toNat : Nat) : Int)), some (vi y), none, none, none, none, none, none]) (by rw [show ((c.toNat : Nat) : Int) = c by omega]) ?_
              refine fAt_q (fun r M' h => ?_) (wiped_2 (N := Mc) (c := c.toNat) (by omega) hG c6)
              obtain ⟨z, e, h1, h2⟩ := h
              subst h2
              exact ⟨z, e, Or.inr ⟨by omega, h1⟩, c1, c2, Or.inr ⟨w, pl, l, c4, by rw [c3, c5]; exact hG⟩⟩
        · skip
          exact absurd h14 (by omega)
      · skip
        refine st_if_ne 21 dX6_wiped_14 (by decide) (fun h14 => ?_) (fun h14 => ?_)
        · skip
          exact absurd h14 (by omega)
        · skip
          refine st_ldc2 (v := -1) (-1) dX6_wiped_17 (ftb_in 528 (by decide +kernel) rfl) (by decide +kernel) ?_
          refine st_lreturn dX6_wiped_20 rfl ⟨_, rfl, ⟨Or.inl ⟨by omega, rfl⟩, vS_r _, hx.2.2.2, hW⟩⟩
/-! ===== odds, in the reference ===== -/
def wR (M N : fM) (w : Nat) (p : Int) : Prop := (∀ k a b, k ≠ 24 → k ≠ 27 → ¬ (k = 23 ∧ a = 0 ∧ 4 ≤ b ∧ b < 4 + (2 * w - 1)) → N k a b = M k a b) ∧ (∀ j, j < 2 * w - 1 → N 27 0 j = lL M j) ∧ ∀ j, j < 2 * w - 1 → 0 ≤ N 23 0 (4 + j) ∧ N 23 0 (4 + j) < p
def wRb (M N : fM) (s b : Nat) : Prop := ∀ i, i < b → N 23 0 (4 + i) = if bit s i = 1 then 0 else lL M i
theorem wR_n {M N : fM} {w : Nat} {p : Int} (h : nOk M w p) (hN : wR M N w p) : nOk N w p := by
  obtain ⟨h1, h2, h3, h4, h5, h6, h7, h8⟩ := h
  have e : ∀ b, ¬ (4 ≤ b ∧ b < 4 + (2 * w - 1)) → N 23 0 b = M 23 0 b := fun b hb => hN.1 23 0 b (by decide) (by decide) (by omega)
  exact ⟨by rw [e 0 (by omega)]; exact h1, by rw [e 2 (by omega)]; exact h2, h3, h4, by rw [e 1 (by omega)]; exact h5, hN.2.2, fun q hq => by show 0 ≤ N 23 0 (15 + q) ∧ N 23 0 (15 + q) < p; rw [e (15 + q) (by omega)]; exact h7 q hq, by rw [e 3 (by omega)]; exact h8⟩
theorem wR_up {M N : fM} {w : Nat} {p v : Int} {b : Nat} (hN : wR M N w p) (hb : b < 2 * w - 1) (hv : 0 ≤ v ∧ v < p) : wR M (fup N 23 0 (4 + b) v) w p := by
  refine ⟨fun k a c q1 q2 q3 => by rw [fup_ne (by omega)]; exact hN.1 k a c q1 q2 q3, hN.2.1, fun j hj => ?_⟩
  by_cases e : j = b
  · rw [e, fup_eq]; exact hv
  · rw [fup_ne (by omega)]; exact hN.2.2 j hj
theorem wRb_up {M N : fM} {s b : Nat} (h : wRb M N s b) : wRb M (fup N 23 0 (4 + b) (if bit s b = 1 then 0 else lL M b)) s (b + 1) := by
  intro i hi
  by_cases e : i = b
  · rw [e, fup_eq]
  · rw [fup_ne (by omega)]; exact h i (by omega)
theorem wR_W {M N : fM} {w : Nat} {p : Int} {D : Nat → Nat → Int} (hN : wR M N w p) : wR M (wW N D) w p := ⟨fun k a c q1 q2 q3 => (wW_ne q1).trans (hN.1 k a c q1 q2 q3), fun j hj => (wW_ne (by decide)).trans (hN.2.1 j hj), fun j hj => by rw [wW_ne (by decide)]; exact hN.2.2 j hj⟩
theorem wR_e {M N : fM} {w s : Nat} {p : Int} (hN : wR M N w p) (hB : wRb M N s (2 * w - 1)) : dt w (eN N w p) % p = dt w (ent p w (M 23 0 1) (tw (fun i => i) s (2 * w - 1) (lL M))) % p := by
  have e : dt w (eN N w p) = dt w (ent p w (M 23 0 1) (tw (fun i => i) s (2 * w - 1) (lL M))) := by
    refine dt_congr (fun i j hi hj => ?_)
    show ent p w (N 23 0 1) (lL N) i j = _
    rw [hN.1 23 0 1 (by decide) (by decide) (by omega)]
    refine ent_congr (fun q hq => ?_) hi hj
    have ht := tw_at (pl := fun i => i) (s := s) (b := 2 * w - 1) (lL M) (fun i j _ _ h => h)
    exact (hB q hq).trans (ht.1 q hq).symm
  rw [e]
abbrev aS (M : fM) (w : Nat) (p : Int) (c : Nat) : Nat → Nat := fun s => wt c s (2 * w - 1) * zf p w (M 23 0 1) (tw (fun i => i) s (2 * w - 1) (lL M))
abbrev bS (w c : Nat) : Nat → Nat := fun s => wt c s (2 * w - 1)
theorem aS_e {M : fM} {w : Nat} {p : Int} {c : Nat} : sN (2 ^ (2 * w - 1)) (aS M w p c) = Gc (zf p w (M 23 0 1)) c (fun i => i) (2 * w - 1) (lL M) := sum_G _ _
theorem bS_e {w c : Nat} (hc : c ≤ 10) (L : Nat → Int) : sN (2 ^ (2 * w - 1)) (bS w c) = 10 ^ (2 * w - 1) := by
  rw [← Gc_one (pl := fun i => i) hc (2 * w - 1) L, ← sum_G]
  exact sN_c (fun s _ => (Nat.mul_one _).symm)
theorem aS_b {M : fM} {w : Nat} {p : Int} {c n : Nat} (hc : c ≤ 10) (hw : w ≤ 6) : sN n (aS M w p c) ≤ n * 100000000000 ∧ sN n (bS w c) ≤ n * 100000000000 := by
  have h : ∀ s, wt c s (2 * w - 1) ≤ 100000000000 := fun s => Nat.le_trans (wt_le hc _) (p10_11 (by omega)).2
  refine ⟨sN_le (fun i _ => ?_), sN_le (fun i _ => h i)⟩
  have := Nat.mul_le_mul (h i) (zf_1 p w (M 23 0 1) (tw (fun i => i) i (2 * w - 1) (lL M)))
  rw [Nat.mul_one] at this
  exact this
set_option maxHeartbeats 4000000 in
set_option maxRecDepth 100000 in
theorem mw_i {g : fG} {M : fM} {w : Nat} {p : Int} (hn : nOk M w p) {c : Nat} {y : Int} (hc : c ≤ 10) {s : Nat} (hs : s < 2048) {Q : Option fV → fM → Prop} (hk : ∀ N, wR M N w p → fAt g Y_X7_wiped 71 [some (vr 22 0), some (vi (c : Int)), some (vi y), some (vi (((2 * w - 1) : Nat) : Int)), some (vl ((sN (s + 1) (aS M w p c) : Nat) : Int)), none, some (vl ((sN (s + 1) (bS w c) : Nat) : Int)), none, some (vi ((s : Int) + 1)), none, none, none, none, none] [] N Q) :
    ∀ (n : Nat) (b : Nat) (Nn : fM), b + n = 2 * w - 1 → wR M Nn w p → wRb M Nn s b → fAt g Y_X7_wiped 85 [some (vr 22 0), some (vi (c : Int)), some (vi y), some (vi (((2 * w - 1) : Nat) : Int)), some (vl ((sN s (aS M w p c) : Nat) : Int)), none, some (vl ((sN s (bS w c) : Nat) : Int)), none, some (vi (s : Int)), some (vl ((wt c s b : Nat) : Int)), none, some (vi (b : Int)), none, none] [] Nn Q := by
  have hw1 := hn.2.2.2.1
  have hp2 := hn.2.2.1.1
  intro n
  induction n with
  | zero =>
    intro b Nn hm hN hB
    refine st_iload dX7_wiped_85 rfl ?_
    refine st_iload_n dX7_wiped_87 rfl ?_
    refine st_icmp_ge 160 dX7_wiped_88 (by decide) (fun h88 => ?_) (fun h88 => ?_)
    · skip
      have eb : b = 2 * w - 1 := by omega
      rw [eb] at hB
      have hab := aS_b (M := M) (p := p) (n := s) hc (show w ≤ 6 by omega)
      have hwb := Nat.le_trans (wt_le (s := s) hc (2 * w - 1)) (p10_11 (show 2 * w - 1 ≤ 11 by omega)).2
      refine fAt_ls (ls' := [some (vr 22 0), some (vi (c : Int)), some (vi y), some (vi (((2 * w - 1) : Nat) : Int)), some (vl ((sN s (aS M w p c) : Nat) : Int)), none, some (vl ((sN s (bS w c) : Nat) : Int)), none, some (vi (s : Int)), some (vl ((wt c s (2 * w - 1) : Nat) : Int)), none, some (vi (b : Int)), none, none]) (by rw [eb]) ?_
      refine st_lload dX7_wiped_160 rfl ?_
      refine st_lload dX7_wiped_162 rfl ?_
      refine st_ladd dX7_wiped_164 (by omega) ?_
      refine fAt_vl (x' := ((sN (s + 1) (bS w c) : Nat) : Int)) (Int.natCast_add _ _).symm ?_
      refine st_lstore (ls' := [some (vr 22 0), some (vi (c : Int)), some (vi y), some (vi (((2 * w - 1) : Nat) : Int)), some (vl ((sN s (aS M w p c) : Nat) : Int)), none, some (vl ((sN (s + 1) (bS w c) : Nat) : Int)), none, some (vi (s : Int)), some (vl ((wt c s (2 * w - 1) : Nat) : Int)), none, some (vi (b : Int)), none, none]) dX7_wiped_165 (by decide) rfl rfl ?_
      refine st_lload dX7_wiped_167 rfl ?_
      refine st_lload dX7_wiped_169 rfl ?_
      refine st_lconst0 dX7_wiped_171 ?_
      refine st_lcmp dX7_wiped_172 ?_
      refine st_if_le 194 dX7_wiped_173 (by decide) (fun h173 => ?_) (fun h173 => ?_)
      · skip
        refine st_lconst0 dX7_wiped_194 ?_
        refine st_ladd dX7_wiped_195 (by omega) ?_
        refine fAt_vl (x' := ((sN (s + 1) (aS M w p c) : Nat) : Int)) (by
          first
          | (have hz : zf p w (M 23 0 1) (tw (fun i => i) s (2 * w - 1) (lL M)) = 1 := by unfold zf; rw [if_pos h186]
             show _ = (((sN s (aS M w p c) + wt c s (2 * w - 1) * zf p w (M 23 0 1) (tw (fun i => i) s (2 * w - 1) (lL M)) : Nat)) : Int)
             rw [hz, Nat.mul_one, Int.natCast_add])
          | (have hz : zf p w (M 23 0 1) (tw (fun i => i) s (2 * w - 1) (lL M)) = 0 := by unfold zf; rw [if_neg h186]
             show _ = (((sN s (aS M w p c) + wt c s (2 * w - 1) * zf p w (M 23 0 1) (tw (fun i => i) s (2 * w - 1) (lL M)) : Nat)) : Int)
             rw [hz, Nat.mul_zero, Int.natCast_add]; rfl)
          | (have hz : wt c s (2 * w - 1) = 0 := by have : ¬ 0 < ((wt c s (2 * w - 1) : Nat) : Int) := fun q => absurd (fcmp_gt.mpr q) (by omega); omega
             show _ = (((sN s (aS M w p c) + wt c s (2 * w - 1) * zf p w (M 23 0 1) (tw (fun i => i) s (2 * w - 1) (lL M)) : Nat)) : Int)
             rw [hz, Nat.zero_mul, Int.natCast_add]; rfl)) ?_
        refine st_lstore (ls' := [some (vr 22 0), some (vi (c : Int)), some (vi y), some (vi (((2 * w - 1) : Nat) : Int)), some (vl ((sN (s + 1) (aS M w p c) : Nat) : Int)), none, some (vl ((sN (s + 1) (bS w c) : Nat) : Int)), none, some (vi (s : Int)), some (vl ((wt c s (2 * w - 1) : Nat) : Int)), none, some (vi (b : Int)), none, none]) dX7_wiped_196 (by decide) rfl rfl ?_
        refine st_iinc (ls' := [some (vr 22 0), some (vi (c : Int)), some (vi y), some (vi (((2 * w - 1) : Nat) : Int)), some (vl ((sN (s + 1) (aS M w p c) : Nat) : Int)), none, some (vl ((sN (s + 1) (bS w c) : Nat) : Int)), none, some (vi ((s : Int) + 1)), some (vl ((wt c s (2 * w - 1) : Nat) : Int)), none, some (vi (b : Int)), none, none]) dX7_wiped_198 rfl (by omega) (by decide) rfl rfl ?_
        refine st_goto 71 dX7_wiped_201 (by decide) ?_
        refine fAt_del 9 rfl ?_
        refine fAt_del 11 rfl ?_
        first
        | exact hk _ hN2
        | exact hk _ hN
      · skip
        refine st_aload_n dX7_wiped_176 rfl ?_
        refine st_aload_n dX7_wiped_177 rfl ?_
        refine st_getr (i' := 0) dX7_wiped_178 fl_X7_7 rfl rfl rfl (fun _ => by decide) ?_
        refine st_iconst dX7_wiped_181 (by decide) ?_
        refine st_iald (j := 0) dX7_wiped_182 rfl rfl rfl rfl (by decide) ?_
        refine fAt_v (x' := (w : Int)) (wR_n hn hN).1 ?_
        refine st_callVi [vi (w : Int)] [vl ((sN s (aS M w p c) : Nat) : Int)] dX7_wiped_183 vl_X7_117 rfl rfl rfl rfl (Nat.le_of_ble_eq_true rfl) (by decide) (m_cornerOf (wR_n hn hN) (Nat.le_refl w)) (fun zc Mc qc => ?_)
        obtain ⟨rfl, D, q⟩ := qc
        subst Mc
        rw [wR_e hN hB]
        have hN2 := wR_W (D := D) hN
        refine st_if_ne 194 dX7_wiped_186 (by decide) (fun h186 => ?_) (fun h186 => ?_)
        · skip
          refine st_lconst0 dX7_wiped_194 ?_
          refine st_ladd dX7_wiped_195 (by omega) ?_
          refine fAt_vl (x' := ((sN (s + 1) (aS M w p c) : Nat) : Int)) (by
            first
            | (have hz : zf p w (M 23 0 1) (tw (fun i => i) s (2 * w - 1) (lL M)) = 1 := by unfold zf; rw [if_pos h186]
               show _ = (((sN s (aS M w p c) + wt c s (2 * w - 1) * zf p w (M 23 0 1) (tw (fun i => i) s (2 * w - 1) (lL M)) : Nat)) : Int)
               rw [hz, Nat.mul_one, Int.natCast_add])
            | (have hz : zf p w (M 23 0 1) (tw (fun i => i) s (2 * w - 1) (lL M)) = 0 := by unfold zf; rw [if_neg h186]
               show _ = (((sN s (aS M w p c) + wt c s (2 * w - 1) * zf p w (M 23 0 1) (tw (fun i => i) s (2 * w - 1) (lL M)) : Nat)) : Int)
               rw [hz, Nat.mul_zero, Int.natCast_add]; rfl)
            | (have hz : wt c s (2 * w - 1) = 0 := by have : ¬ 0 < ((wt c s (2 * w - 1) : Nat) : Int) := fun q => absurd (fcmp_gt.mpr q) (by omega); omega
               show _ = (((sN s (aS M w p c) + wt c s (2 * w - 1) * zf p w (M 23 0 1) (tw (fun i => i) s (2 * w - 1) (lL M)) : Nat)) : Int)
               rw [hz, Nat.zero_mul, Int.natCast_add]; rfl)) ?_
          refine st_lstore (ls' := [some (vr 22 0), some (vi (c : Int)), some (vi y), some (vi (((2 * w - 1) : Nat) : Int)), some (vl ((sN (s + 1) (aS M w p c) : Nat) : Int)), none, some (vl ((sN (s + 1) (bS w c) : Nat) : Int)), none, some (vi (s : Int)), some (vl ((wt c s (2 * w - 1) : Nat) : Int)), none, some (vi (b : Int)), none, none]) dX7_wiped_196 (by decide) rfl rfl ?_
          refine st_iinc (ls' := [some (vr 22 0), some (vi (c : Int)), some (vi y), some (vi (((2 * w - 1) : Nat) : Int)), some (vl ((sN (s + 1) (aS M w p c) : Nat) : Int)), none, some (vl ((sN (s + 1) (bS w c) : Nat) : Int)), none, some (vi ((s : Int) + 1)), some (vl ((wt c s (2 * w - 1) : Nat) : Int)), none, some (vi (b : Int)), none, none]) dX7_wiped_198 rfl (by omega) (by decide) rfl rfl ?_
          refine st_goto 71 dX7_wiped_201 (by decide) ?_
          refine fAt_del 9 rfl ?_
          refine fAt_del 11 rfl ?_
          first
          | exact hk _ hN2
          | exact hk _ hN
        · skip
          refine st_lload dX7_wiped_189 rfl ?_
          refine st_goto 195 dX7_wiped_191 (by decide) ?_
          refine st_ladd dX7_wiped_195 (by omega) ?_
          refine fAt_vl (x' := ((sN (s + 1) (aS M w p c) : Nat) : Int)) (by
            first
            | (have hz : zf p w (M 23 0 1) (tw (fun i => i) s (2 * w - 1) (lL M)) = 1 := by unfold zf; rw [if_pos h186]
               show _ = (((sN s (aS M w p c) + wt c s (2 * w - 1) * zf p w (M 23 0 1) (tw (fun i => i) s (2 * w - 1) (lL M)) : Nat)) : Int)
               rw [hz, Nat.mul_one, Int.natCast_add])
            | (have hz : zf p w (M 23 0 1) (tw (fun i => i) s (2 * w - 1) (lL M)) = 0 := by unfold zf; rw [if_neg h186]
               show _ = (((sN s (aS M w p c) + wt c s (2 * w - 1) * zf p w (M 23 0 1) (tw (fun i => i) s (2 * w - 1) (lL M)) : Nat)) : Int)
               rw [hz, Nat.mul_zero, Int.natCast_add]; rfl)
            | (have hz : wt c s (2 * w - 1) = 0 := by have : ¬ 0 < ((wt c s (2 * w - 1) : Nat) : Int) := fun q => absurd (fcmp_gt.mpr q) (by omega); omega
               show _ = (((sN s (aS M w p c) + wt c s (2 * w - 1) * zf p w (M 23 0 1) (tw (fun i => i) s (2 * w - 1) (lL M)) : Nat)) : Int)
               rw [hz, Nat.zero_mul, Int.natCast_add]; rfl)) ?_
          refine st_lstore (ls' := [some (vr 22 0), some (vi (c : Int)), some (vi y), some (vi (((2 * w - 1) : Nat) : Int)), some (vl ((sN (s + 1) (aS M w p c) : Nat) : Int)), none, some (vl ((sN (s + 1) (bS w c) : Nat) : Int)), none, some (vi (s : Int)), some (vl ((wt c s (2 * w - 1) : Nat) : Int)), none, some (vi (b : Int)), none, none]) dX7_wiped_196 (by decide) rfl rfl ?_
          refine st_iinc (ls' := [some (vr 22 0), some (vi (c : Int)), some (vi y), some (vi (((2 * w - 1) : Nat) : Int)), some (vl ((sN (s + 1) (aS M w p c) : Nat) : Int)), none, some (vl ((sN (s + 1) (bS w c) : Nat) : Int)), none, some (vi ((s : Int) + 1)), some (vl ((wt c s (2 * w - 1) : Nat) : Int)), none, some (vi (b : Int)), none, none]) dX7_wiped_198 rfl (by omega) (by decide) rfl rfl ?_
          refine st_goto 71 dX7_wiped_201 (by decide) ?_
          refine fAt_del 9 rfl ?_
          refine fAt_del 11 rfl ?_
          first
          | exact hk _ hN2
          | exact hk _ hN
    · skip
      exact absurd h88 (by omega)
  | succ n ih =>
    intro b Nn hm hN hB
    refine st_iload dX7_wiped_85 rfl ?_
    refine st_iload_n dX7_wiped_87 rfl ?_
    refine st_icmp_ge 160 dX7_wiped_88 (by decide) (fun h88 => ?_) (fun h88 => ?_)
    · skip
      exact absurd h88 (by omega)
    · skip
      have hbt := bit_2 s b
      have hwb := Nat.le_trans (wt_le (s := s) hc b) (p10_11 (show b ≤ 11 by omega)).2
      have hLb := hn.2.2.2.2.2.1 b (by omega)
      refine st_iload dX7_wiped_91 rfl ?_
      refine st_iload dX7_wiped_93 rfl ?_
      refine st_ishr dX7_wiped_95 ?_
      refine st_iconst dX7_wiped_96 (by decide) ?_
      refine st_iand dX7_wiped_97 ?_
      refine fAt_v (x' := ((bit s b : Nat) : Int)) (bit_j hs (by omega)) ?_
      refine st_iconst dX7_wiped_98 (by decide) ?_
      refine st_icmp_ne 106 dX7_wiped_99 (by decide) (fun h99 => ?_) (fun h99 => ?_)
      · skip
        refine st_iconst dX7_wiped_106 (by decide) ?_
        refine st_istore (ls' := [some (vr 22 0), some (vi (c : Int)), some (vi y), some (vi (((2 * w - 1) : Nat) : Int)), some (vl ((sN s (aS M w p c) : Nat) : Int)), none, some (vl ((sN s (bS w c) : Nat) : Int)), none, some (vi (s : Int)), some (vl ((wt c s b : Nat) : Int)), none, some (vi (b : Int)), some (vi 0), none]) dX7_wiped_107 (by decide) rfl rfl ?_
        refine st_lload dX7_wiped_109 rfl ?_
        refine st_iload dX7_wiped_111 rfl ?_
        refine st_if_eq 121 dX7_wiped_113 (by decide) (fun h113 => ?_) (fun h113 => ?_)
        · skip
          refine st_bipush dX7_wiped_121 (by decide) ?_
          refine st_iload_n dX7_wiped_123 rfl ?_
          refine st_isub dX7_wiped_124 (by omega) ?_
          refine st_i2l dX7_wiped_125 ?_
          refine st_lmul dX7_wiped_126 (by have h1 := mulb (x := ((wt c s b : Nat) : Int)) (y := (c : Int)) (a := 100000000000) (b := 10) (by omega) (by omega) (by omega) (by omega); have h2 := mulb (x := ((wt c s b : Nat) : Int)) (y := 10 - (c : Int)) (a := 100000000000) (b := 10) (by omega) (by omega) (by omega) (by omega); omega) ?_
          refine fAt_vl (x' := ((wt c s (b + 1) : Nat) : Int)) (by
            show _ = ((wt c s b * (if bit s b = 1 then c else 10 - c) : Nat) : Int)
            first
            | (rw [if_pos (by omega), Int.natCast_mul]; done)
            | (rw [if_neg (by omega), Int.natCast_mul, show ((10 - c : Nat) : Int) = 10 - (c : Int) by omega])) ?_
          refine st_lstore (ls' := [some (vr 22 0), some (vi (c : Int)), some (vi y), some (vi (((2 * w - 1) : Nat) : Int)), some (vl ((sN s (aS M w p c) : Nat) : Int)), none, some (vl ((sN s (bS w c) : Nat) : Int)), none, some (vi (s : Int)), some (vl ((wt c s (b + 1) : Nat) : Int)), none, some (vi (b : Int)), some (vi 0), none]) dX7_wiped_127 (by decide) rfl rfl ?_
          refine st_aload_n dX7_wiped_129 rfl ?_
          refine st_getr (i' := 0) dX7_wiped_130 fl_X7_7 rfl rfl rfl (fun _ => by decide) ?_
          refine st_iconst dX7_wiped_133 (by decide) ?_
          refine st_iload dX7_wiped_134 rfl ?_
          refine st_iadd dX7_wiped_136 (by omega) ?_
          refine st_iload dX7_wiped_137 rfl ?_
          refine st_if_eq 146 dX7_wiped_139 (by decide) (fun h139 => ?_) (fun h139 => ?_)
          · skip
            refine st_aload_n dX7_wiped_146 rfl ?_
            refine st_getr (i' := 0) dX7_wiped_147 fl_X7_22 rfl rfl rfl (fun _ => by decide) ?_
            refine st_iload dX7_wiped_150 rfl ?_
            refine st_iald (j := b) dX7_wiped_152 rfl rfl rfl rfl (by omega) ?_
            refine fAt_v (x' := lL M b) (hN.2.1 b (by omega)) ?_
            refine fAt_v (x' := if bit s b = 1 then 0 else lL M b) (by first | (rw [if_pos (by omega)]; done) | rw [if_neg (by omega)]) ?_
            refine st_iast (j := (4 + b)) dX7_wiped_153 rfl rfl rfl (by omega) (by omega) ?_
            have hup := wR_up (v := if bit s b = 1 then 0 else lL M b) hN (show b < 2 * w - 1 by omega) (by split <;> omega)
            refine st_iinc (ls' := [some (vr 22 0), some (vi (c : Int)), some (vi y), some (vi (((2 * w - 1) : Nat) : Int)), some (vl ((sN s (aS M w p c) : Nat) : Int)), none, some (vl ((sN s (bS w c) : Nat) : Int)), none, some (vi (s : Int)), some (vl ((wt c s (b + 1) : Nat) : Int)), none, some (vi ((b : Int) + 1)), some (vi 0), none]) dX7_wiped_154 rfl (by omega) (by decide) rfl rfl ?_
            refine st_goto 85 dX7_wiped_157 (by decide) ?_
            refine fAt_del 12 rfl ?_
            exact ih (b + 1) _ (by omega) hup (wRb_up hB)
          · skip
            exact absurd rfl h139
        · skip
          exact absurd rfl h113
      · skip
        refine st_iconst dX7_wiped_102 (by decide) ?_
        refine st_goto 107 dX7_wiped_103 (by decide) ?_
        refine st_istore (ls' := [some (vr 22 0), some (vi (c : Int)), some (vi y), some (vi (((2 * w - 1) : Nat) : Int)), some (vl ((sN s (aS M w p c) : Nat) : Int)), none, some (vl ((sN s (bS w c) : Nat) : Int)), none, some (vi (s : Int)), some (vl ((wt c s b : Nat) : Int)), none, some (vi (b : Int)), some (vi 1), none]) dX7_wiped_107 (by decide) rfl rfl ?_
        refine st_lload dX7_wiped_109 rfl ?_
        refine st_iload dX7_wiped_111 rfl ?_
        refine st_if_eq 121 dX7_wiped_113 (by decide) (fun h113 => ?_) (fun h113 => ?_)
        · skip
          exact absurd h113 (by decide)
        · skip
          refine st_iload_n dX7_wiped_116 rfl ?_
          refine st_i2l dX7_wiped_117 ?_
          refine st_goto 126 dX7_wiped_118 (by decide) ?_
          refine st_lmul dX7_wiped_126 (by have h1 := mulb (x := ((wt c s b : Nat) : Int)) (y := (c : Int)) (a := 100000000000) (b := 10) (by omega) (by omega) (by omega) (by omega); have h2 := mulb (x := ((wt c s b : Nat) : Int)) (y := 10 - (c : Int)) (a := 100000000000) (b := 10) (by omega) (by omega) (by omega) (by omega); omega) ?_
          refine fAt_vl (x' := ((wt c s (b + 1) : Nat) : Int)) (by
            show _ = ((wt c s b * (if bit s b = 1 then c else 10 - c) : Nat) : Int)
            first
            | (rw [if_pos (by omega), Int.natCast_mul]; done)
            | (rw [if_neg (by omega), Int.natCast_mul, show ((10 - c : Nat) : Int) = 10 - (c : Int) by omega])) ?_
          refine st_lstore (ls' := [some (vr 22 0), some (vi (c : Int)), some (vi y), some (vi (((2 * w - 1) : Nat) : Int)), some (vl ((sN s (aS M w p c) : Nat) : Int)), none, some (vl ((sN s (bS w c) : Nat) : Int)), none, some (vi (s : Int)), some (vl ((wt c s (b + 1) : Nat) : Int)), none, some (vi (b : Int)), some (vi 1), none]) dX7_wiped_127 (by decide) rfl rfl ?_
          refine st_aload_n dX7_wiped_129 rfl ?_
          refine st_getr (i' := 0) dX7_wiped_130 fl_X7_7 rfl rfl rfl (fun _ => by decide) ?_
          refine st_iconst dX7_wiped_133 (by decide) ?_
          refine st_iload dX7_wiped_134 rfl ?_
          refine st_iadd dX7_wiped_136 (by omega) ?_
          refine st_iload dX7_wiped_137 rfl ?_
          refine st_if_eq 146 dX7_wiped_139 (by decide) (fun h139 => ?_) (fun h139 => ?_)
          · skip
            exact absurd h139 (by decide)
          · skip
            refine st_iconst dX7_wiped_142 (by decide) ?_
            refine st_goto 153 dX7_wiped_143 (by decide) ?_
            refine fAt_v (x' := if bit s b = 1 then 0 else lL M b) (by first | (rw [if_pos (by omega)]; done) | rw [if_neg (by omega)]) ?_
            refine st_iast (j := (4 + b)) dX7_wiped_153 rfl rfl rfl (by omega) (by omega) ?_
            have hup := wR_up (v := if bit s b = 1 then 0 else lL M b) hN (show b < 2 * w - 1 by omega) (by split <;> omega)
            refine st_iinc (ls' := [some (vr 22 0), some (vi (c : Int)), some (vi y), some (vi (((2 * w - 1) : Nat) : Int)), some (vl ((sN s (aS M w p c) : Nat) : Int)), none, some (vl ((sN s (bS w c) : Nat) : Int)), none, some (vi (s : Int)), some (vl ((wt c s (b + 1) : Nat) : Int)), none, some (vi ((b : Int) + 1)), some (vi 1), none]) dX7_wiped_154 rfl (by omega) (by decide) rfl rfl ?_
            refine st_goto 85 dX7_wiped_157 (by decide) ?_
            refine fAt_del 12 rfl ?_
            exact ih (b + 1) _ (by omega) hup (wRb_up hB)
set_option maxHeartbeats 4000000 in
set_option maxRecDepth 100000 in
theorem mw_e {g : fG} {M : fM} {w : Nat} {p : Int} (hn : nOk M w p) {c : Nat} {y : Int} (hc : c ≤ 10) {N0 : fM} :
    ∀ (n : Nat) (a b : Nat), b ≤ n → Nat.gcd a b = Nat.gcd (Gc (zf p w (M 23 0 1)) c (fun i => i) (2 * w - 1) (lL M)) (10 ^ (2 * w - 1)) → fAt g Y_X7_wiped 243 [some (vr 22 0), some (vi (c : Int)), some (vi y), some (vi (((2 * w - 1) : Nat) : Int)), some (vl (((Gc (zf p w (M 23 0 1)) c (fun i => i) (2 * w - 1) (lL M)) : Nat) : Int)), none, some (vl (((10 ^ (2 * w - 1)) : Nat) : Int)), none, some (vl (a : Int)), none, some (vl (b : Int)), none, none, none] [] N0 (fL (fun z M' => WmS p w (M 23 0 1) (lL M) c y z ∧ M' = N0)) := by
  have hw1 := hn.2.2.2.1
  have hp2 := hn.2.2.1.1
  intro n
  induction n with
  | zero =>
    intro a b hm hg
    refine st_lload dX7_wiped_243 rfl ?_
    refine st_lconst0 dX7_wiped_245 ?_
    refine st_lcmp dX7_wiped_246 ?_
    refine st_if_eq 268 dX7_wiped_247 (by decide) (fun h247 => ?_) (fun h247 => ?_)
    · skip
      have hb0 : (b : Int) = 0 := fcmp_eq.mp h247
      have ea : a = Nat.gcd (Gc (zf p w (M 23 0 1)) c (fun i => i) (2 * w - 1) (lL M)) (10 ^ (2 * w - 1)) := by rw [← hg, show b = 0 by omega, Nat.gcd_zero_right]
      have hg0 := Nat.gcd_pos_of_pos_right (Gc (zf p w (M 23 0 1)) c (fun i => i) (2 * w - 1) (lL M)) (p10_11 (show 2 * w - 1 ≤ 11 by omega)).1
      refine st_iload_n dX7_wiped_268 rfl ?_
      refine st_if_ne 277 dX7_wiped_269 (by decide) (fun h269 => ?_) (fun h269 => ?_)
      · skip
        refine st_lload dX7_wiped_277 rfl ?_
        refine st_lload dX7_wiped_279 rfl ?_
        refine st_ldiv dX7_wiped_281 (Int.natCast_nonneg _) (by omega) ?_
        refine st_lreturn dX7_wiped_282 rfl ⟨_, rfl, ⟨?_, rfl⟩⟩
        unfold WmS
        rw [← ea]
        first
        | (rw [if_pos h269, Int.natCast_ediv]; done)
        | rw [if_neg h269, Int.natCast_ediv]
      · skip
        refine st_lload dX7_wiped_272 rfl ?_
        refine st_goto 279 dX7_wiped_274 (by decide) ?_
        refine st_lload dX7_wiped_279 rfl ?_
        refine st_ldiv dX7_wiped_281 (Int.natCast_nonneg _) (by omega) ?_
        refine st_lreturn dX7_wiped_282 rfl ⟨_, rfl, ⟨?_, rfl⟩⟩
        unfold WmS
        rw [← ea]
        first
        | (rw [if_pos h269, Int.natCast_ediv]; done)
        | rw [if_neg h269, Int.natCast_ediv]
    · skip
      exact absurd (fcmp_eq.mpr (show (b : Int) = 0 by omega)) h247
  | succ n ih =>
    intro a b hm hg
    refine st_lload dX7_wiped_243 rfl ?_
    refine st_lconst0 dX7_wiped_245 ?_
    refine st_lcmp dX7_wiped_246 ?_
    refine st_if_eq 268 dX7_wiped_247 (by decide) (fun h247 => ?_) (fun h247 => ?_)
    · skip
      have hb0 : (b : Int) = 0 := fcmp_eq.mp h247
      have ea : a = Nat.gcd (Gc (zf p w (M 23 0 1)) c (fun i => i) (2 * w - 1) (lL M)) (10 ^ (2 * w - 1)) := by rw [← hg, show b = 0 by omega, Nat.gcd_zero_right]
      have hg0 := Nat.gcd_pos_of_pos_right (Gc (zf p w (M 23 0 1)) c (fun i => i) (2 * w - 1) (lL M)) (p10_11 (show 2 * w - 1 ≤ 11 by omega)).1
      refine st_iload_n dX7_wiped_268 rfl ?_
      refine st_if_ne 277 dX7_wiped_269 (by decide) (fun h269 => ?_) (fun h269 => ?_)
      · skip
        refine st_lload dX7_wiped_277 rfl ?_
        refine st_lload dX7_wiped_279 rfl ?_
        refine st_ldiv dX7_wiped_281 (Int.natCast_nonneg _) (by omega) ?_
        refine st_lreturn dX7_wiped_282 rfl ⟨_, rfl, ⟨?_, rfl⟩⟩
        unfold WmS
        rw [← ea]
        first
        | (rw [if_pos h269, Int.natCast_ediv]; done)
        | rw [if_neg h269, Int.natCast_ediv]
      · skip
        refine st_lload dX7_wiped_272 rfl ?_
        refine st_goto 279 dX7_wiped_274 (by decide) ?_
        refine st_lload dX7_wiped_279 rfl ?_
        refine st_ldiv dX7_wiped_281 (Int.natCast_nonneg _) (by omega) ?_
        refine st_lreturn dX7_wiped_282 rfl ⟨_, rfl, ⟨?_, rfl⟩⟩
        unfold WmS
        rw [← ea]
        first
        | (rw [if_pos h269, Int.natCast_ediv]; done)
        | rw [if_neg h269, Int.natCast_ediv]
    · skip
      have hb0 : 0 < b := by
        have : (b : Int) ≠ 0 := fun q => h247 (fcmp_eq.mpr q)
        omega
      refine st_lload dX7_wiped_250 rfl ?_
      refine st_lload dX7_wiped_252 rfl ?_
      refine st_lrem dX7_wiped_254 (by omega) (by omega) ?_
      refine st_lstore (ls' := [some (vr 22 0), some (vi (c : Int)), some (vi y), some (vi (((2 * w - 1) : Nat) : Int)), some (vl (((Gc (zf p w (M 23 0 1)) c (fun i => i) (2 * w - 1) (lL M)) : Nat) : Int)), none, some (vl (((10 ^ (2 * w - 1)) : Nat) : Int)), none, some (vl (a : Int)), none, some (vl (b : Int)), none, some (vl ((a % b : Nat) : Int)), none]) dX7_wiped_255 (by decide) rfl rfl ?_
      refine st_lload dX7_wiped_257 rfl ?_
      refine st_lstore (ls' := [some (vr 22 0), some (vi (c : Int)), some (vi y), some (vi (((2 * w - 1) : Nat) : Int)), some (vl (((Gc (zf p w (M 23 0 1)) c (fun i => i) (2 * w - 1) (lL M)) : Nat) : Int)), none, some (vl (((10 ^ (2 * w - 1)) : Nat) : Int)), none, some (vl (b : Int)), none, some (vl (b : Int)), none, some (vl ((a % b : Nat) : Int)), none]) dX7_wiped_259 (by decide) rfl rfl ?_
      refine st_lload dX7_wiped_261 rfl ?_
      refine st_lstore (ls' := [some (vr 22 0), some (vi (c : Int)), some (vi y), some (vi (((2 * w - 1) : Nat) : Int)), some (vl (((Gc (zf p w (M 23 0 1)) c (fun i => i) (2 * w - 1) (lL M)) : Nat) : Int)), none, some (vl (((10 ^ (2 * w - 1)) : Nat) : Int)), none, some (vl (b : Int)), none, some (vl ((a % b : Nat) : Int)), none, some (vl ((a % b : Nat) : Int)), none]) dX7_wiped_263 (by decide) rfl rfl ?_
      refine st_goto 243 dX7_wiped_265 (by decide) ?_
      refine fAt_del 12 rfl ?_
      exact ih b (a % b) (by have := Nat.mod_lt a hb0; omega) (by rw [← hg, Nat.gcd_comm a b, Nat.gcd_rec b a, Nat.gcd_comm])
set_option maxHeartbeats 4000000 in
set_option maxRecDepth 100000 in
theorem mw_r {g : fG} {M : fM} {w : Nat} {p : Int} (hn : nOk M w p) {c : Nat} {y : Int} (hc : c ≤ 10) :
    ∀ (n : Nat) (b : Nat) (Nn : fM), b + n = 2 * w - 1 → wR M Nn w p → (∀ j, j < b → Nn 23 0 (4 + j) = lL M j) → fAt g Y_X7_wiped 207 [some (vr 22 0), some (vi (c : Int)), some (vi y), some (vi (((2 * w - 1) : Nat) : Int)), some (vl (((Gc (zf p w (M 23 0 1)) c (fun i => i) (2 * w - 1) (lL M)) : Nat) : Int)), none, some (vl (((10 ^ (2 * w - 1)) : Nat) : Int)), none, some (vi (b : Int)), none, none, none, none, none] [] Nn (fL (fun z M' => WmS p w (M 23 0 1) (lL M) c y z ∧ mS M M')) := by
  have hw1 := hn.2.2.2.1
  have hp2 := hn.2.2.1.1
  intro n
  induction n with
  | zero =>
    intro b Nn hm hN hB
    refine st_iload dX7_wiped_207 rfl ?_
    refine st_iload_n dX7_wiped_209 rfl ?_
    refine st_icmp_ge 235 dX7_wiped_210 (by decide) (fun h210 => ?_) (fun h210 => ?_)
    · skip
      refine st_lload dX7_wiped_235 rfl ?_
      refine st_lstore (ls' := [some (vr 22 0), some (vi (c : Int)), some (vi y), some (vi (((2 * w - 1) : Nat) : Int)), some (vl (((Gc (zf p w (M 23 0 1)) c (fun i => i) (2 * w - 1) (lL M)) : Nat) : Int)), none, some (vl (((10 ^ (2 * w - 1)) : Nat) : Int)), none, some (vl (((Gc (zf p w (M 23 0 1)) c (fun i => i) (2 * w - 1) (lL M)) : Nat) : Int)), none, none, none, none, none]) dX7_wiped_237 (by decide) rfl rfl ?_
      refine st_lload dX7_wiped_239 rfl ?_
      refine st_lstore (ls' := [some (vr 22 0), some (vi (c : Int)), some (vi y), some (vi (((2 * w - 1) : Nat) : Int)), some (vl (((Gc (zf p w (M 23 0 1)) c (fun i => i) (2 * w - 1) (lL M)) : Nat) : Int)), none, some (vl (((10 ^ (2 * w - 1)) : Nat) : Int)), none, some (vl (((Gc (zf p w (M 23 0 1)) c (fun i => i) (2 * w - 1) (lL M)) : Nat) : Int)), none, some (vl (((10 ^ (2 * w - 1)) : Nat) : Int)), none, none, none]) dX7_wiped_241 (by decide) rfl rfl ?_
      refine fAt_q (fun r M' h => ?_) (mw_e (N0 := Nn) hn hc (10 ^ (2 * w - 1)) _ _ (Nat.le_refl _) rfl)
      obtain ⟨z, e, h1, h2⟩ := h
      refine ⟨z, e, h1, ?_⟩
      rw [h2]
      intro k a b' q1 q2 q3 q4 q5 q6 q7
      by_cases e2 : k = 23 ∧ a = 0 ∧ 4 ≤ b' ∧ b' < 4 + (2 * w - 1)
      · obtain ⟨rfl, rfl, h4, h5⟩ := e2
        have := hB (b' - 4) (by omega)
        rw [show 4 + (b' - 4) = b' by omega] at this
        rw [this]
        show M 23 0 (4 + (b' - 4)) = _
        rw [show 4 + (b' - 4) = b' by omega]
      · exact hN.1 k a b' q1 q3 e2
    · skip
      exact absurd h210 (by omega)
  | succ n ih =>
    intro b Nn hm hN hB
    refine st_iload dX7_wiped_207 rfl ?_
    refine st_iload_n dX7_wiped_209 rfl ?_
    refine st_icmp_ge 235 dX7_wiped_210 (by decide) (fun h210 => ?_) (fun h210 => ?_)
    · skip
      exact absurd h210 (by omega)
    · skip
      refine st_aload_n dX7_wiped_213 rfl ?_
      refine st_getr (i' := 0) dX7_wiped_214 fl_X7_7 rfl rfl rfl (fun _ => by decide) ?_
      refine st_iconst dX7_wiped_217 (by decide) ?_
      refine st_iload dX7_wiped_218 rfl ?_
      refine st_iadd dX7_wiped_220 (by omega) ?_
      refine st_aload_n dX7_wiped_221 rfl ?_
      refine st_getr (i' := 0) dX7_wiped_222 fl_X7_22 rfl rfl rfl (fun _ => by decide) ?_
      refine st_iload dX7_wiped_225 rfl ?_
      refine st_iald (j := b) dX7_wiped_227 rfl rfl rfl rfl (by omega) ?_
      refine fAt_v (x' := lL M b) (hN.2.1 b (by omega)) ?_
      refine st_iast (j := (4 + b)) dX7_wiped_228 rfl rfl rfl (by omega) (by omega) ?_
      refine st_iinc (ls' := [some (vr 22 0), some (vi (c : Int)), some (vi y), some (vi (((2 * w - 1) : Nat) : Int)), some (vl (((Gc (zf p w (M 23 0 1)) c (fun i => i) (2 * w - 1) (lL M)) : Nat) : Int)), none, some (vl (((10 ^ (2 * w - 1)) : Nat) : Int)), none, some (vi ((b : Int) + 1)), none, none, none, none, none]) dX7_wiped_229 rfl (by omega) (by decide) rfl rfl ?_
      refine st_goto 207 dX7_wiped_232 (by decide) ?_
      exact ih (b + 1) _ (by omega) (wR_up hN (by omega) (hn.2.2.2.2.2.1 b (by omega))) (fun j hj => by
        by_cases e : j = b
        · rw [e, fup_eq]
        · rw [fup_ne (by omega)]; exact hB j (by omega))
set_option maxHeartbeats 4000000 in
set_option maxRecDepth 100000 in
theorem mw_o {g : fG} {M : fM} {w : Nat} {p : Int} (hn : nOk M w p) {c : Nat} {y : Int} (hc : c ≤ 10) :
    ∀ (n : Nat) (s : Nat) (Nn : fM), s + n = 2 ^ (2 * w - 1) → wR M Nn w p → fAt g Y_X7_wiped 71 [some (vr 22 0), some (vi (c : Int)), some (vi y), some (vi (((2 * w - 1) : Nat) : Int)), some (vl ((sN s (aS M w p c) : Nat) : Int)), none, some (vl ((sN s (bS w c) : Nat) : Int)), none, some (vi (s : Int)), none, none, none, none, none] [] Nn (fL (fun z M' => WmS p w (M 23 0 1) (lL M) c y z ∧ mS M M')) := by
  have hw1 := hn.2.2.2.1
  have hp2 := hn.2.2.1.1
  intro n
  induction n with
  | zero =>
    intro s Nn hm hN
    refine st_iload dX7_wiped_71 rfl ?_
    refine st_iconst dX7_wiped_73 (by decide) ?_
    refine st_iload_n dX7_wiped_74 rfl ?_
    refine st_ishl dX7_wiped_75 ?_
    refine fAt_v (x' := ((2 ^ (2 * w - 1) : Nat) : Int)) (one_shl (by omega)) ?_
    have h2l := pw11 (show 2 * w - 1 ≤ 11 by omega)
    refine st_icmp_ge 204 dX7_wiped_76 (by decide) (fun h76 => ?_) (fun h76 => ?_)
    · skip
      refine st_iconst dX7_wiped_204 (by decide) ?_
      refine st_istore (ls' := [some (vr 22 0), some (vi (c : Int)), some (vi y), some (vi (((2 * w - 1) : Nat) : Int)), some (vl ((sN s (aS M w p c) : Nat) : Int)), none, some (vl ((sN s (bS w c) : Nat) : Int)), none, some (vi 0), none, none, none, none, none]) dX7_wiped_205 (by decide) rfl rfl ?_
      refine fAt_ls (ls' := [some (vr 22 0), some (vi (c : Int)), some (vi y), some (vi (((2 * w - 1) : Nat) : Int)), some (vl (((Gc (zf p w (M 23 0 1)) c (fun i => i) (2 * w - 1) (lL M)) : Nat) : Int)), none, some (vl (((10 ^ (2 * w - 1)) : Nat) : Int)), none, some (vi ((0 : Nat) : Int)), none, none, none, none, none]) (by rw [show s = 2 ^ (2 * w - 1) by omega, aS_e, bS_e hc (lL M)]; rfl) ?_
      exact mw_r hn hc (2 * w - 1) 0 Nn (by omega) hN (fun j hj => absurd hj (by omega))
    · skip
      exact absurd h76 (by omega)
  | succ n ih =>
    intro s Nn hm hN
    refine st_iload dX7_wiped_71 rfl ?_
    refine st_iconst dX7_wiped_73 (by decide) ?_
    refine st_iload_n dX7_wiped_74 rfl ?_
    refine st_ishl dX7_wiped_75 ?_
    refine fAt_v (x' := ((2 ^ (2 * w - 1) : Nat) : Int)) (one_shl (by omega)) ?_
    have h2l := pw11 (show 2 * w - 1 ≤ 11 by omega)
    refine st_icmp_ge 204 dX7_wiped_76 (by decide) (fun h76 => ?_) (fun h76 => ?_)
    · skip
      exact absurd h76 (by omega)
    · skip
      refine st_lconst1 dX7_wiped_79 ?_
      refine st_lstore (ls' := [some (vr 22 0), some (vi (c : Int)), some (vi y), some (vi (((2 * w - 1) : Nat) : Int)), some (vl ((sN s (aS M w p c) : Nat) : Int)), none, some (vl ((sN s (bS w c) : Nat) : Int)), none, some (vi (s : Int)), some (vl 1), none, none, none, none]) dX7_wiped_80 (by decide) rfl rfl ?_
      refine st_iconst dX7_wiped_82 (by decide) ?_
      refine st_istore (ls' := [some (vr 22 0), some (vi (c : Int)), some (vi y), some (vi (((2 * w - 1) : Nat) : Int)), some (vl ((sN s (aS M w p c) : Nat) : Int)), none, some (vl ((sN s (bS w c) : Nat) : Int)), none, some (vi (s : Int)), some (vl 1), none, some (vi 0), none, none]) dX7_wiped_83 (by decide) rfl rfl ?_
      refine fAt_ls (ls' := [some (vr 22 0), some (vi (c : Int)), some (vi y), some (vi (((2 * w - 1) : Nat) : Int)), some (vl ((sN s (aS M w p c) : Nat) : Int)), none, some (vl ((sN s (bS w c) : Nat) : Int)), none, some (vi (s : Int)), some (vl ((wt c s 0 : Nat) : Int)), none, some (vi ((0 : Nat) : Int)), none, none]) rfl ?_
      exact mw_i hn hc (by omega) (fun N hN2 => ih (s + 1) N (by omega) hN2) (2 * w - 1) 0 Nn (by omega) hN (fun i hi => absurd hi (by omega))
def wRd (M : fM) (c : Nat) : fM := fun k a b => if k = 27 ∧ a = 0 ∧ b < c then lL M b else M k a b
theorem wRd_s (M : fM) (c : Nat) : fup (wRd M c) 27 0 c (lL M c) = wRd M (c + 1) := by
  funext k a b
  simp only [wRd, fup]
  grind (splits := 30)
theorem wRd_0 (M : fM) : wRd M 0 = M := by
  funext k a b
  unfold wRd
  rw [if_neg (by omega)]
set_option maxHeartbeats 4000000 in
set_option maxRecDepth 100000 in
theorem mw_d {g : fG} {M : fM} {w : Nat} {p : Int} (hn : nOk M w p) {c : Nat} {y : Int} (hc : c ≤ 10) :
    ∀ (n b : Nat), b + n = 2 * w - 1 → fAt g Y_X7_wiped 34 [some (vr 22 0), some (vi (c : Int)), some (vi y), some (vi (((2 * w - 1) : Nat) : Int)), some (vi (b : Int)), none, none, none, none, none, none, none, none, none] [] (wRd M b) (fL (fun z M' => WmS p w (M 23 0 1) (lL M) c y z ∧ mS M M')) := by
  have hw1 := hn.2.2.2.1
  have hp2 := hn.2.2.1.1
  intro n
  induction n with
  | zero =>
    intro b hm
    refine st_iload dX7_wiped_34 rfl ?_
    refine st_iload_n dX7_wiped_36 rfl ?_
    refine st_icmp_ge 62 dX7_wiped_37 (by decide) (fun h37 => ?_) (fun h37 => ?_)
    · skip
      refine st_lconst0 dX7_wiped_62 ?_
      refine st_lstore (ls' := [some (vr 22 0), some (vi (c : Int)), some (vi y), some (vi (((2 * w - 1) : Nat) : Int)), some (vl 0), none, none, none, none, none, none, none, none, none]) dX7_wiped_63 (by decide) rfl rfl ?_
      refine st_lconst0 dX7_wiped_65 ?_
      refine st_lstore (ls' := [some (vr 22 0), some (vi (c : Int)), some (vi y), some (vi (((2 * w - 1) : Nat) : Int)), some (vl 0), none, some (vl 0), none, none, none, none, none, none, none]) dX7_wiped_66 (by decide) rfl rfl ?_
      refine st_iconst dX7_wiped_68 (by decide) ?_
      refine st_istore (ls' := [some (vr 22 0), some (vi (c : Int)), some (vi y), some (vi (((2 * w - 1) : Nat) : Int)), some (vl 0), none, some (vl 0), none, some (vi 0), none, none, none, none, none]) dX7_wiped_69 (by decide) rfl rfl ?_
      refine fAt_ls (ls' := [some (vr 22 0), some (vi (c : Int)), some (vi y), some (vi (((2 * w - 1) : Nat) : Int)), some (vl ((sN 0 (aS M w p c) : Nat) : Int)), none, some (vl ((sN 0 (bS w c) : Nat) : Int)), none, some (vi ((0 : Nat) : Int)), none, none, none, none, none]) rfl ?_
      exact mw_o hn hc (2 ^ (2 * w - 1)) 0 _ (Nat.zero_add _) ⟨fun k a c q1 q2 q3 => by unfold wRd; rw [if_neg (by omega)], fun j hj => by unfold wRd; rw [if_pos ⟨rfl, rfl, by omega⟩], fun j hj => by show 0 ≤ wRd M b 23 0 (4 + j) ∧ wRd M b 23 0 (4 + j) < p; unfold wRd; rw [if_neg (by omega)]; exact hn.2.2.2.2.2.1 j hj⟩
    · skip
      exact absurd h37 (by omega)
  | succ n ih =>
    intro b hm
    refine st_iload dX7_wiped_34 rfl ?_
    refine st_iload_n dX7_wiped_36 rfl ?_
    refine st_icmp_ge 62 dX7_wiped_37 (by decide) (fun h37 => ?_) (fun h37 => ?_)
    · skip
      exact absurd h37 (by omega)
    · skip
      refine st_aload_n dX7_wiped_40 rfl ?_
      refine st_getr (i' := 0) dX7_wiped_41 fl_X7_22 rfl rfl rfl (fun _ => by decide) ?_
      refine st_iload dX7_wiped_44 rfl ?_
      refine st_aload_n dX7_wiped_46 rfl ?_
      refine st_getr (i' := 0) dX7_wiped_47 fl_X7_7 rfl rfl rfl (fun _ => by decide) ?_
      refine st_iconst dX7_wiped_50 (by decide) ?_
      refine st_iload dX7_wiped_51 rfl ?_
      refine st_iadd dX7_wiped_53 (by omega) ?_
      refine st_iald (j := (4 + b)) dX7_wiped_54 rfl rfl rfl (by omega) (by omega) ?_
      refine fAt_v (x' := lL M b) (by unfold wRd; rw [if_neg (by omega)]) ?_
      refine st_iast (j := b) dX7_wiped_55 rfl rfl rfl rfl (by omega) ?_
      refine fAt_m (wRd_s M b) ?_
      refine st_iinc (ls' := [some (vr 22 0), some (vi (c : Int)), some (vi y), some (vi (((2 * w - 1) : Nat) : Int)), some (vi ((b : Int) + 1)), none, none, none, none, none, none, none, none, none]) dX7_wiped_56 rfl (by omega) (by decide) rfl rfl ?_
      refine st_goto 34 dX7_wiped_59 (by decide) ?_
      exact ih (b + 1) (by omega)
set_option maxHeartbeats 4000000 in
set_option maxRecDepth 100000 in
theorem m_wiped {g : fG} {M : fM} {w : Nat} {p : Int} (hn : nOk M w p) {c y : Int} :
    fCl g Y_X7_wiped [vr 22 0, vi c, vi y] M (fun z M' => ((¬ ((0 ≤ c ∧ c ≤ 10) ∧ (y = 0 ∨ y = 1)) ∧ z = -1) ∨ (((0 ≤ c ∧ c ≤ 10) ∧ (y = 0 ∨ y = 1)) ∧ WmS p w (M 23 0 1) (lL M) c.toNat y z)) ∧ mS M M') := by
  have hw1 := hn.2.2.2.1
  have hp2 := hn.2.2.1.1
  refine fCl_of _ [some (vr 22 0), some (vi c), some (vi y), none, none, none, none, none, none, none, none, none, none, none] (by decide) (Nat.le_of_ble_eq_true rfl) rfl (fun h => h) ?_
  refine st_iload_n dX7_wiped_0 rfl ?_
  refine st_i2l dX7_wiped_1 ?_
  refine st_lconst0 dX7_wiped_2 ?_
  refine st_ldc2 (v := 10) (10) dX7_wiped_3 (ftb_in 979 (by decide +kernel) rfl) (by decide +kernel) ?_
  refine st_callSi [vl c, vl 0, vl 10] [] dX7_wiped_6 sl_X7_57 rfl rfl (Nat.le_of_ble_eq_true rfl) (by decide) (m_in) (fun za Ma qa => ?_)
  obtain ⟨qa, rfl⟩ := qa
  rcases qa with ⟨rfl, aa⟩ | ⟨rfl, aa⟩
  · skip
    refine st_if_eq 22 dX7_wiped_9 (by decide) (fun h9 => ?_) (fun h9 => ?_)
    · skip
      exact absurd h9 (by omega)
    · skip
      refine st_iload_n dX7_wiped_12 rfl ?_
      refine st_i2l dX7_wiped_13 ?_
      refine st_lconst0 dX7_wiped_14 ?_
      refine st_lconst1 dX7_wiped_15 ?_
      refine st_callSi [vl y, vl 0, vl 1] [] dX7_wiped_16 sl_X7_57 rfl rfl (Nat.le_of_ble_eq_true rfl) (by decide) (m_in) (fun zb Mb qb => ?_)
      obtain ⟨qb, rfl⟩ := qb
      rcases qb with ⟨rfl, ab⟩ | ⟨rfl, ab⟩
      · skip
        refine st_if_ne 26 dX7_wiped_19 (by decide) (fun h19 => ?_) (fun h19 => ?_)
        · skip
          refine st_aload_n dX7_wiped_26 rfl ?_
          refine st_callVi [] [] dX7_wiped_27 vl_X7_61 rfl rfl rfl rfl (Nat.le_of_ble_eq_true rfl) (by decide) (m_lines hn.1 hn.2.2.2.1) (fun zl Ml ql => ?_)
          obtain ⟨rfl, q⟩ := ql
          subst Ml
          refine st_istore_n (ls' := [some (vr 22 0), some (vi c), some (vi y), some (vi (((2 * w - 1) : Nat) : Int)), none, none, none, none, none, none, none, none, none, none]) dX7_wiped_30 (by decide) rfl rfl ?_
          refine st_iconst dX7_wiped_31 (by decide) ?_
          refine st_istore (ls' := [some (vr 22 0), some (vi c), some (vi y), some (vi (((2 * w - 1) : Nat) : Int)), some (vi 0), none, none, none, none, none, none, none, none, none]) dX7_wiped_32 (by decide) rfl rfl ?_
          refine fAt_m (wRd_0 _).symm ?_
          refine fAt_ls (ls' := [some (vr 22 0), some (vi ((c.toNat : Nat) : Int)), some (vi y), some (vi ((2 * w - 1 : Nat) : Int)), some (vi ((0 : Nat) : Int)), none, none, none, none, none, none, none, none, none]) (by rw [show ((c.toNat : Nat) : Int) = c by omega]; rfl) ?_
          refine fAt_q (fun r M' h => ?_) (mw_d (c := c.toNat) hn (by omega) (2 * w - 1) 0 (by omega))
          obtain ⟨z, e, h1, h2⟩ := h
          exact ⟨z, e, Or.inr ⟨by omega, h1⟩, h2⟩
        · skip
          exact absurd h19 (by omega)
      · skip
        refine st_if_ne 26 dX7_wiped_19 (by decide) (fun h19 => ?_) (fun h19 => ?_)
        · skip
          exact absurd h19 (by omega)
        · skip
          refine st_ldc2 (v := -1) (-1) dX7_wiped_22 (ftb_in 944 (by decide +kernel) rfl) (by decide +kernel) ?_
          refine st_lreturn dX7_wiped_25 rfl ⟨_, rfl, ⟨Or.inl ⟨by omega, rfl⟩, mS_r _⟩⟩
  · skip
    refine st_if_eq 22 dX7_wiped_9 (by decide) (fun h9 => ?_) (fun h9 => ?_)
    · skip
      refine st_ldc2 (v := -1) (-1) dX7_wiped_22 (ftb_in 944 (by decide +kernel) rfl) (by decide +kernel) ?_
      refine st_lreturn dX7_wiped_25 rfl ⟨_, rfl, ⟨Or.inl ⟨by omega, rfl⟩, mS_r _⟩⟩
    · skip
      exact absurd h9 (by omega)
