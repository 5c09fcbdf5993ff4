/-! ===== counting ===== -/
def cwU (M N : fM) : Prop := ∀ k a b, k ≠ 8 → k ≠ 10 → k ≠ 11 → k ≠ 12 → k ≠ 14 → ¬ ((k = 2 ∨ k = 3 ∨ k = 4) ∧ a = 18) → N k a b = M k a b
def cwR (M N : fM) (w : Nat) (p kd : Int) (L : Nat → Int) (pl : Nat → Nat) (l s : Nat) : Prop := cwU M N ∧ gI N ∧ sOk N 18 w p ∧ N 2 18 1 = kd ∧ (∀ j, j < 2 * w - 1 → (∀ i, i < l → pl i ≠ j) → N 3 18 j = L j) ∧ ∀ v, v < 12 → N 14 0 v = ((cz (zf p w kd) pl l L s v : Nat) : Int)
def cwB (N : fM) (L : Nat → Int) (pl : Nat → Nat) (s b : Nat) : Prop := ∀ i, i < b → N 3 18 (pl i) = if bit s i = 1 then 0 else L (pl i)
/-- what is fixed while counting -/
def cwH (M : fM) (w : Nat) (p kd : Int) (L : Nat → Int) (pl : Nat → Nat) (l : Nat) : Prop := M 13 0 2 = (l : Int) ∧ l ≤ 11 ∧ (∀ i, i < l → M 15 0 i = ((pl i : Nat) : Int) ∧ pl i < 2 * w - 1) ∧ (∀ i j, i < l → j < l → pl i = pl j → i = j) ∧ (∀ j, M 3 0 j = L j) ∧ (∀ j, j < 2 * w - 1 → 0 ≤ L j ∧ L j < p) ∧ M 1 0 0 = p ∧ pOk p ∧ (0 ≤ kd ∧ kd ≤ 4) ∧ (1 ≤ w ∧ w ≤ 6)
theorem cw_up {M N : fM} {w : Nat} {p kd : Int} {L : Nat → Int} {pl : Nat → Nat} {l s b : Nat} (h : cwH M w p kd L pl l) (hN : cwR M N w p kd L pl l s) (hB : cwB N L pl s b) (hb : b < l) : cwR M (fup N 3 18 (pl b) (if bit s b = 1 then 0 else L (pl b))) w p kd L pl l s ∧ cwB (fup N 3 18 (pl b) (if bit s b = 1 then 0 else L (pl b))) L pl s (b + 1) := by
  obtain ⟨h1, h2, ⟨s1, s2, s3, s4, s5, s6⟩, h4, h5, h6⟩ := hN
  have hr : 0 ≤ (if bit s b = 1 then 0 else L (pl b)) ∧ (if bit s b = 1 then 0 else L (pl b)) < p := by
    have := h.2.2.2.2.2.1 (pl b) (h.2.2.1 b hb).2
    have := h.2.2.2.2.2.2.2.1.1
    split <;> omega
  refine ⟨⟨fun k a c q1 q2 q3 q4 q5 q6 => by rw [fup_ne (by omega)]; exact h1 k a c q1 q2 q3 q4 q5 q6, ⟨h2.choose, by obtain ⟨g1, g2, g3⟩ := h2.choose_spec; exact ⟨g1, g2, fun a a1 a2 => g3 a a1 a2⟩⟩, ⟨s1, s2, s3, fun q hq => ?_, s5, s6⟩, h4, fun j hj hne => ?_, h6⟩, fun i hi => ?_⟩
  · by_cases e : q = pl b
    · rw [e, fup_eq]; exact hr
    · rw [fup_ne (by omega)]; exact s4 q hq
  · rw [fup_ne (fun q => hne b hb q.2.2.symm)]
    exact h5 j hj hne
  · by_cases e : i = b
    · rw [e, fup_eq]
    · have : pl i ≠ pl b := fun q => by have := h.2.2.2.1 i b (by omega) hb q; omega
      rw [fup_ne (by omega)]
      exact hB i (by omega)
theorem cw_e {M N : fM} {w : Nat} {p kd : Int} {L : Nat → Int} {pl : Nat → Nat} {l s : Nat} (h : cwH M w p kd L pl l) (hN : cwR M N w p kd L pl l s) (hB : cwB N L pl s l) : dt w (eM N 18 w p) % p = dt w (ent p w kd (tw pl s l L)) % p := by
  have e : dt w (eM N 18 w p) = dt w (ent p w kd (tw pl s l L)) := by
    refine dt_congr (fun i j hi hj => ?_)
    show ent p w (N 2 18 1) (N 3 18) i j = _
    rw [hN.2.2.2.1]
    refine ent_congr (fun q hq => ?_) hi hj
    have ht := tw_at (pl := pl) (s := s) (b := l) L h.2.2.2.1
    by_cases e : ∃ i, i < l ∧ pl i = q
    · obtain ⟨i, h1, rfl⟩ := e
      rw [ht.1 i h1, hB i h1]
    · have e2 : ∀ i, i < l → pl i ≠ q := fun i hi q2 => e ⟨i, hi, q2⟩
      rw [ht.2 q e2, hN.2.2.2.2.1 q hq e2]
  rw [e]
theorem cw_s {M N N' : fM} {w : Nat} {p kd : Int} {L : Nat → Int} {pl : Nat → Nat} {l s : Nat} (hN : cwR M N w p kd L pl l s) (hS : gS N N') (hG : gI N') : cwR M N' w p kd L pl l s := by
  obtain ⟨h1, h2, h3, h4, h5, h6⟩ := hN
  exact ⟨fun k a c q1 q2 q3 q4 q5 q6 => (hS k a c q1 q2 q3 q4).trans (h1 k a c q1 q2 q3 q4 q5 q6), hG, sOk_S hS h3, by rw [hS 2 18 1 (by decide) (by decide) (by decide) (by decide)]; exact h4, fun j hj hne => by rw [hS 3 18 j (by decide) (by decide) (by decide) (by decide)]; exact h5 j hj hne, fun v hv => by rw [hS 14 0 v (by decide) (by decide) (by decide) (by decide)]; exact h6 v hv⟩
theorem cw_n {M N : fM} {w : Nat} {p kd : Int} {L : Nat → Int} {pl : Nat → Nat} {l s : Nat} (hN : cwR M N w p kd L pl l s) (hz : dt w (ent p w kd (tw pl s l L)) % p ≠ 0) : cwR M N w p kd L pl l (s + 1) := by
  obtain ⟨h1, h2, h3, h4, h5, h6⟩ := hN
  refine ⟨h1, h2, h3, h4, h5, fun v hv => ?_⟩
  rw [h6 v hv]
  show _ = (((cz (zf p w kd) pl l L s v + (if popk 11 s = v then zf p w kd (tw pl s l L) else 0) : Nat)) : Int)
  have : zf p w kd (tw pl s l L) = 0 := by unfold zf; rw [if_neg hz]
  rw [this, ite_self, Nat.add_zero]
theorem cw_y {M N : fM} {w : Nat} {p kd : Int} {L : Nat → Int} {pl : Nat → Nat} {l s : Nat} (hN : cwR M N w p kd L pl l s) (hz : dt w (ent p w kd (tw pl s l L)) % p = 0) : cwR M (fup N 14 0 (popk 11 s) (((cz (zf p w kd) pl l L s (popk 11 s) : Nat) : Int) + 1)) w p kd L pl l (s + 1) := by
  obtain ⟨h1, h2, h3, h4, h5, h6⟩ := hN
  refine ⟨fun k a c q1 q2 q3 q4 q5 q6 => by rw [fup_ne (by omega)]; exact h1 k a c q1 q2 q3 q4 q5 q6, ⟨h2.choose, by obtain ⟨g1, g2, g3⟩ := h2.choose_spec; exact ⟨g1, g2, fun a a1 a2 => g3 a a1 a2⟩⟩, h3, h4, h5, fun v hv => ?_⟩
  have e1 : zf p w kd (tw pl s l L) = 1 := by unfold zf; rw [if_pos hz]
  show _ = (((cz (zf p w kd) pl l L s v + (if popk 11 s = v then zf p w kd (tw pl s l L) else 0) : Nat)) : Int)
  rw [e1]
  by_cases e : popk 11 s = v
  · subst e
    rw [fup_eq, if_pos rfl]
    rfl
  · rw [fup_ne (by omega), if_neg e, Nat.add_zero]
    exact h6 v hv
set_option maxHeartbeats 4000000 in
set_option maxRecDepth 100000 in
theorem cw_i {g : fG} {M : fM} {w : Nat} {p kd : Int} {L : Nat → Int} {pl : Nat → Nat} {l : Nat} (h : cwH M w p kd L pl l) {s : Nat} (hs : s < 2048) {Q : Option fV → fM → Prop} (hk : ∀ N, cwR M N w p kd L pl l (s + 1) → fAt g Y_X6_countWipes 37 [some (vr 0 0), some (vi ((s : Int) + 1)), none, none] [] N Q) :
    ∀ (n : Nat) (b : Nat) (Nn : fM), b + n = l → cwR M Nn w p kd L pl l s → cwB Nn L pl s b → fAt g Y_X6_countWipes 52 [some (vr 0 0), some (vi (s : Int)), some (vi (b : Int)), none] [] Nn Q := by
  intro n
  induction n with
  | zero =>
    intro b Nn hm hN hB
    refine st_iload_n dX6_countWipes_52 rfl ?_
    refine st_aload_n dX6_countWipes_53 rfl ?_
    refine st_getr (i' := 0) dX6_countWipes_54 fl_X6_47 rfl rfl rfl (fun _ => by decide) ?_
    refine st_get dX6_countWipes_57 fl_X6_222 rfl rfl rfl ?_
    refine fAt_v (x' := (l : Int)) ((hN.1 13 0 2 (by decide) (by decide) (by decide) (by decide) (by decide) (by omega)).trans h.1) ?_
    refine st_icmp_ge 113 dX6_countWipes_60 (by decide) (fun h60 => ?_) (fun h60 => ?_)
    · skip
      have ebl : b = l := by omega
      rw [ebl] at hB
      have hpk := popk_le s 11
      refine st_aload_n dX6_countWipes_113 rfl ?_
      refine st_aload_n dX6_countWipes_114 rfl ?_
      refine st_getr (i' := 18) dX6_countWipes_115 fl_X6_40 rfl rfl rfl (fun _ => by decide) ?_
      refine st_aload_n dX6_countWipes_118 rfl ?_
      refine st_getr (i' := 18) dX6_countWipes_119 fl_X6_40 rfl rfl rfl (fun _ => by decide) ?_
      refine st_get dX6_countWipes_122 fl_X6_106 rfl rfl rfl ?_
      refine fAt_v (x' := (w : Int)) hN.2.2.1.1 ?_
      refine st_callVi [vr 2 18, vi (w : Int)] [] dX6_countWipes_125 vl_X6_167 rfl rfl rfl rfl (Nat.le_of_ble_eq_true rfl) (by decide) (c_cornerOf (i := 18) ((hN.1 1 0 0 (by decide) (by decide) (by decide) (by decide) (by decide) (by omega)).trans h.2.2.2.2.2.2.1) h.2.2.2.2.2.2.2.1 hN.2.2.1 hN.2.1 (Nat.le_refl w)) (fun z Mc qc => ?_)
      obtain ⟨rfl, hS2, hG2⟩ := qc
      rw [cw_e h hN hB]
      have hN2 := cw_s hN hS2 hG2
      refine st_if_ne 147 dX6_countWipes_128 (by decide) (fun h128 => ?_) (fun h128 => ?_)
      · skip
        refine st_iinc (ls' := [some (vr 0 0), some (vi ((s : Int) + 1)), some (vi (b : Int)), none]) dX6_countWipes_147 rfl (by omega) (by decide) rfl rfl ?_
        refine st_goto 37 dX6_countWipes_150 (by decide) ?_
        refine fAt_del 2 rfl ?_
        refine fAt_del 3 rfl ?_
        first
        | exact hk _ (cw_y hN2 h128)
        | exact hk _ (cw_n hN2 h128)
      · skip
        refine st_aload_n dX6_countWipes_131 rfl ?_
        refine st_getr (i' := 0) dX6_countWipes_132 fl_X6_47 rfl rfl rfl (fun _ => by decide) ?_
        refine st_getr (i' := 0) dX6_countWipes_135 fl_X6_306 rfl rfl rfl (fun _ => by decide) ?_
        refine st_iload_n dX6_countWipes_138 rfl ?_
        refine st_callSi [vi (s : Int)] [vr 14 0] dX6_countWipes_139 sl_X6_309 rfl rfl (Nat.le_of_ble_eq_true rfl) (by decide) (c_bitCount (n := s) hs) (fun zb Mb qb => ?_)
        obtain ⟨rfl, q⟩ := qb
        subst Mb
        refine st_dup2 dX6_countWipes_142 rfl rfl ?_
        refine st_lald (j := (popk 11 s)) dX6_countWipes_143 rfl rfl rfl rfl (by omega) ?_
        refine fAt_vl (x' := ((cz (zf p w kd) pl l L s (popk 11 s) : Nat) : Int)) (hN2.2.2.2.2.2 _ (by omega)) ?_
        have hcz := cz_le (f := zf p w kd) (pl := pl) (l := l) (L := L) (m := s) (v := popk 11 s) (zf_1 p w kd)
        refine st_lconst1 dX6_countWipes_144 ?_
        refine st_ladd dX6_countWipes_145 (by omega) ?_
        refine st_last (j := (popk 11 s)) dX6_countWipes_146 rfl rfl rfl rfl (by omega) ?_
        refine st_iinc (ls' := [some (vr 0 0), some (vi ((s : Int) + 1)), some (vi (b : Int)), none]) dX6_countWipes_147 rfl (by omega) (by decide) rfl rfl ?_
        refine st_goto 37 dX6_countWipes_150 (by decide) ?_
        refine fAt_del 2 rfl ?_
        refine fAt_del 3 rfl ?_
        first
        | exact hk _ (cw_y hN2 h128)
        | exact hk _ (cw_n hN2 h128)
    · skip
      exact absurd h60 (by omega)
  | succ n ih =>
    intro b Nn hm hN hB
    refine st_iload_n dX6_countWipes_52 rfl ?_
    refine st_aload_n dX6_countWipes_53 rfl ?_
    refine st_getr (i' := 0) dX6_countWipes_54 fl_X6_47 rfl rfl rfl (fun _ => by decide) ?_
    refine st_get dX6_countWipes_57 fl_X6_222 rfl rfl rfl ?_
    refine fAt_v (x' := (l : Int)) ((hN.1 13 0 2 (by decide) (by decide) (by decide) (by decide) (by decide) (by omega)).trans h.1) ?_
    refine st_icmp_ge 113 dX6_countWipes_60 (by decide) (fun h60 => ?_) (fun h60 => ?_)
    · skip
      exact absurd h60 (by omega)
    · skip
      have hl11 := h.2.1
      have hpb := h.2.2.1 b (by omega)
      have hw6 := h.2.2.2.2.2.2.2.2.2
      have hbt := bit_2 s b
      refine st_aload_n dX6_countWipes_63 rfl ?_
      refine st_getr (i' := 0) dX6_countWipes_64 fl_X6_47 rfl rfl rfl (fun _ => by decide) ?_
      refine st_getr (i' := 0) dX6_countWipes_67 fl_X6_303 rfl rfl rfl (fun _ => by decide) ?_
      refine st_iload_n dX6_countWipes_70 rfl ?_
      refine st_iald (j := b) dX6_countWipes_71 rfl rfl rfl rfl (by omega) ?_
      refine fAt_v (x' := ((pl b : Nat) : Int)) ((hN.1 15 0 b (by decide) (by decide) (by decide) (by decide) (by decide) (by omega)).trans hpb.1) ?_
      refine st_istore_n (ls' := [some (vr 0 0), some (vi (s : Int)), some (vi (b : Int)), some (vi (((pl b) : Nat) : Int))]) dX6_countWipes_72 (by decide) rfl rfl ?_
      refine st_aload_n dX6_countWipes_73 rfl ?_
      refine st_getr (i' := 18) dX6_countWipes_74 fl_X6_40 rfl rfl rfl (fun _ => by decide) ?_
      refine st_getr (i' := 18) dX6_countWipes_77 fl_X6_112 rfl rfl rfl (fun _ => by decide) ?_
      refine st_iload_n dX6_countWipes_80 rfl ?_
      refine st_iload_n dX6_countWipes_81 rfl ?_
      refine st_iload_n dX6_countWipes_82 rfl ?_
      refine st_ishr dX6_countWipes_83 ?_
      refine st_iconst dX6_countWipes_84 (by decide) ?_
      refine st_iand dX6_countWipes_85 ?_
      refine fAt_v (x' := ((bit s b : Nat) : Int)) (bit_j hs (by omega)) ?_
      refine st_iconst dX6_countWipes_86 (by decide) ?_
      refine st_icmp_ne 94 dX6_countWipes_87 (by decide) (fun h87 => ?_) (fun h87 => ?_)
      · skip
        refine st_aload_n dX6_countWipes_94 rfl ?_
        refine st_getr (i' := 0) dX6_countWipes_95 fl_X6_12 rfl rfl rfl (fun _ => by decide) ?_
        refine st_getr (i' := 0) dX6_countWipes_98 fl_X6_76 rfl rfl rfl (fun _ => by decide) ?_
        refine st_getr (i' := 0) dX6_countWipes_101 fl_X6_112 rfl rfl rfl (fun _ => by decide) ?_
        refine st_iload_n dX6_countWipes_104 rfl ?_
        refine st_iald (j := (pl b)) dX6_countWipes_105 rfl rfl rfl rfl (by omega) ?_
        refine fAt_v (x' := L (pl b)) ((hN.1 3 0 _ (by decide) (by decide) (by decide) (by decide) (by decide) (by omega)).trans (h.2.2.2.2.1 _)) ?_
        refine fAt_v (x' := if bit s b = 1 then 0 else L (pl b)) (by first | (rw [if_pos (by omega)]; done) | rw [if_neg (by omega)]) ?_
        refine st_iast (j := (pl b)) dX6_countWipes_106 rfl rfl rfl rfl (by omega) ?_
        have hup := cw_up h hN hB (show b < l by omega)
        refine st_iinc (ls' := [some (vr 0 0), some (vi (s : Int)), some (vi ((b : Int) + 1)), some (vi (((pl b) : Nat) : Int))]) dX6_countWipes_107 rfl (by omega) (by decide) rfl rfl ?_
        refine st_goto 52 dX6_countWipes_110 (by decide) ?_
        refine fAt_del 3 rfl ?_
        exact ih (b + 1) _ (by omega) hup.1 hup.2
      · skip
        refine st_iconst dX6_countWipes_90 (by decide) ?_
        refine st_goto 106 dX6_countWipes_91 (by decide) ?_
        refine fAt_v (x' := if bit s b = 1 then 0 else L (pl b)) (by first | (rw [if_pos (by omega)]; done) | rw [if_neg (by omega)]) ?_
        refine st_iast (j := (pl b)) dX6_countWipes_106 rfl rfl rfl rfl (by omega) ?_
        have hup := cw_up h hN hB (show b < l by omega)
        refine st_iinc (ls' := [some (vr 0 0), some (vi (s : Int)), some (vi ((b : Int) + 1)), some (vi (((pl b) : Nat) : Int))]) dX6_countWipes_107 rfl (by omega) (by decide) rfl rfl ?_
        refine st_goto 52 dX6_countWipes_110 (by decide) ?_
        refine fAt_del 3 rfl ?_
        exact ih (b + 1) _ (by omega) hup.1 hup.2
set_option maxHeartbeats 4000000 in
set_option maxRecDepth 100000 in
theorem cw_o {g : fG} {M : fM} {w : Nat} {p kd : Int} {L : Nat → Int} {pl : Nat → Nat} {l : Nat} (h : cwH M w p kd L pl l) :
    ∀ (n : Nat) (s : Nat) (Nn : fM), s + n = 2 ^ l → cwR M Nn w p kd L pl l s → fAt g Y_X6_countWipes 37 [some (vr 0 0), some (vi (s : Int)), none, none] [] Nn (fN (fun M' => cwR M M' w p kd L pl l (2 ^ l))) := by
  intro n
  induction n with
  | zero =>
    intro s Nn hm hN
    refine st_iload_n dX6_countWipes_37 rfl ?_
    refine st_iconst dX6_countWipes_38 (by decide) ?_
    refine st_aload_n dX6_countWipes_39 rfl ?_
    refine st_getr (i' := 0) dX6_countWipes_40 fl_X6_47 rfl rfl rfl (fun _ => by decide) ?_
    refine st_get dX6_countWipes_43 fl_X6_222 rfl rfl rfl ?_
    refine fAt_v (x' := (l : Int)) ((hN.1 13 0 2 (by decide) (by decide) (by decide) (by decide) (by decide) (by omega)).trans h.1) ?_
    refine st_ishl dX6_countWipes_46 ?_
    refine fAt_v (x' := ((2 ^ l : Nat) : Int)) (one_shl h.2.1) ?_
    have h2l := pw11 h.2.1
    refine st_icmp_ge 153 dX6_countWipes_47 (by decide) (fun h47 => ?_) (fun h47 => ?_)
    · skip
      refine st_return dX6_countWipes_153 rfl ⟨rfl, (by rw [show 2 ^ l = s by omega]; exact hN)⟩
    · skip
      exact absurd h47 (by omega)
  | succ n ih =>
    intro s Nn hm hN
    refine st_iload_n dX6_countWipes_37 rfl ?_
    refine st_iconst dX6_countWipes_38 (by decide) ?_
    refine st_aload_n dX6_countWipes_39 rfl ?_
    refine st_getr (i' := 0) dX6_countWipes_40 fl_X6_47 rfl rfl rfl (fun _ => by decide) ?_
    refine st_get dX6_countWipes_43 fl_X6_222 rfl rfl rfl ?_
    refine fAt_v (x' := (l : Int)) ((hN.1 13 0 2 (by decide) (by decide) (by decide) (by decide) (by decide) (by omega)).trans h.1) ?_
    refine st_ishl dX6_countWipes_46 ?_
    refine fAt_v (x' := ((2 ^ l : Nat) : Int)) (one_shl h.2.1) ?_
    have h2l := pw11 h.2.1
    refine st_icmp_ge 153 dX6_countWipes_47 (by decide) (fun h47 => ?_) (fun h47 => ?_)
    · skip
      exact absurd h47 (by omega)
    · skip
      refine st_iconst dX6_countWipes_50 (by decide) ?_
      refine st_istore_n (ls' := [some (vr 0 0), some (vi (s : Int)), some (vi 0), none]) dX6_countWipes_51 (by decide) rfl rfl ?_
      refine fAt_ls (ls' := [some (vr 0 0), some (vi (s : Int)), some (vi ((0 : Nat) : Int)), none]) rfl ?_
      exact cw_i h (by omega) (fun N hN2 => ih (s + 1) N (by omega) hN2) l 0 Nn (by omega) hN (fun i hi => absurd hi (by omega))
/-- what wipes hold is right for what was counted -/
def WpG (M : fM) (w : Nat) (p kd : Int) (pl : Nat → Nat) (l : Nat) : Prop := M 13 0 2 = (l : Int) ∧ l = cn (loK kd w) (M 3 20) (2 * w - 1) ∧ plS (loK kd w) (M 3 20) (2 * w - 1) pl ∧ (∀ v, v < 12 → M 14 0 v = ((cz (zf p w kd) pl l (M 3 20) (2 ^ l) v : Nat) : Int)) ∧ (1 ≤ w ∧ w ≤ 6)
def WpOk (M : fM) : Prop := M 13 0 3 = 0 ∨ ∃ w pl l, M 2 20 0 = ((w : Nat) : Int) ∧ WpG M w (M 13 0 3) (M 2 20 1) pl l
def vS (M M' : fM) : Prop := ∀ k a b, k ≠ 8 → k ≠ 10 → k ≠ 11 → k ≠ 12 → k ≠ 13 → k ≠ 14 → k ≠ 15 → ¬ ((k = 2 ∨ k = 3 ∨ k = 4) ∧ (a = 18 ∨ a = 20)) → M' k a b = M k a b
theorem tw_c {pl : Nat → Nat} {s n : Nat} : ∀ {b : Nat} {L L' : Nat → Int}, (∀ j, j < n → L j = L' j) → ∀ j, j < n → tw pl s b L j = tw pl s b L' j
  | 0, L, L', h, j, hj => h j hj
  | b + 1, L, L', h, j, hj => by
    show tw pl s b _ j = tw pl s b _ j
    refine tw_c (fun i hi => ?_) j hj
    split
    · unfold up0
      rw [h i hi]
    · exact h i hi
theorem cz_c {p : Int} {w : Nat} {kd : Int} {pl : Nat → Nat} {l m v : Nat} {L L' : Nat → Int} (hk : 0 ≤ kd ∧ kd ≤ 4) (h : ∀ j, j < 2 * w - 1 → L j = L' j) : cz (zf p w kd) pl l L m v = cz (zf p w kd) pl l L' m v := by
  unfold cz
  refine sN_c (fun s hs => ?_)
  rw [zf_c (kd5 hk) _ _ (fun j _ hj => tw_c h j hj)]
theorem stk18 {M : fM} {k a b : Nat} (h : ¬ ((k = 2 ∨ k = 3 ∨ k = 4) ∧ a = 18)) : stk M 18 0 k a b = M k a b := stk_off (by omega)
theorem cw_fin {M M1 M' : fM} {w : Nat} {p : Int} (hx : xOk M w p) (hb : bgS (stk M 18 0) M1 w p) : cwH M1 w p (M 2 0 1) (M 3 0) (fun i => (M1 15 0 i).toNat) (cn (loK (M 2 0 1) w) (M 3 0) (2 * w - 1)) ∧ cwR M1 M1 w p (M 2 0 1) (M 3 0) (fun i => (M1 15 0 i).toNat) (cn (loK (M 2 0 1) w) (M 3 0) (2 * w - 1)) 0 ∧ plS (loK (M 2 0 1) w) (M 3 0) (2 * w - 1) (fun i => (M1 15 0 i).toNat) ∧ M1 13 0 3 = p ∧ M1 2 20 0 = (w : Int) ∧ M1 2 20 1 = M 2 0 1 ∧ (∀ j, j < 11 → M1 3 20 j = M 3 0 j) ∧ vS M M1 := by
  obtain ⟨b1, b2, b3, b4, ⟨b5, b6, b7⟩, b8⟩ := hb
  have e3 : stk M 18 0 3 0 = M 3 0 := funext fun b => stk18 (by omega)
  have e2 : ∀ b, stk M 18 0 2 0 b = M 2 0 b := fun b => stk18 (by omega)
  rw [e2 1] at b2 b3 b6
  rw [e3] at b2 b3 b7
  rw [e2 0] at b5
  have hcl := cn_le (loK (M 2 0 1) w) (M 3 0) (2 * w - 1)
  obtain ⟨x1, x2, ⟨s1, s2, s3, s4, s5, s6⟩, x4⟩ := hx
  have hps : plS (loK (M 2 0 1) w) (M 3 0) (2 * w - 1) (fun i => (M1 15 0 i).toNat) := fun k hk h1 h2 => by
    show (M1 15 0 _).toNat = k
    rw [b3 k hk h1 h2]
    rfl
  have hv : vS M M1 := fun k a b q1 q2 q3 q4 q5 q6 q7 q8 => (b8 k a b q5 q6 q7 (by omega)).trans (stk18 (by omega))
  have hk : ∀ k b, k = 2 ∨ k = 3 ∨ k = 4 → M1 k 18 b = stk M 18 0 k 18 b := fun k b hk => b8 k 18 b (by omega) (by omega) (by omega) (by omega)
  refine ⟨⟨b2, by omega, fun i hi => ?_, plS_inj hps, fun j => hv 3 0 j (by decide) (by decide) (by decide) (by decide) (by decide) (by decide) (by decide) (by omega), s4, (hv 1 0 0 (by decide) (by decide) (by decide) (by decide) (by decide) (by decide) (by decide) (by omega)).trans x1, x2, s3, s2⟩, ⟨fun _ _ _ _ _ _ _ _ _ => rfl, ⟨x4.choose, ?_⟩, ⟨?_, s2, ?_, fun q hq => ?_, fun q hq => ?_, ?_⟩, ?_, fun j hj _ => ?_, fun v hv => ?_⟩, hps, b1, b5.trans s1, b6, b7, hv⟩
  · obtain ⟨k, k1, k2, k3, rfl⟩ := plS_sur hps i hi
    have := b3 k k1 k2 k3
    refine ⟨?_, ?_⟩
    · show M1 15 0 _ = (((M1 15 0 _).toNat : Nat) : Int)
      rw [this]; rfl
    · show (M1 15 0 _).toNat < _
      rw [this]; exact k1
  · obtain ⟨g1, g2, g3⟩ := x4.choose_spec
    have e : ∀ k b, k = 8 ∨ k = 12 → M1 k 0 b = M k 0 b := fun k b hk => (b8 k 0 b (by omega) (by omega) (by omega) (by omega)).trans (stk18 (by omega))
    exact ⟨by rw [e 8 _ (by omega)]; exact g1, g2, fun a a1 a2 => by rw [e 12 _ (by omega)]; exact g3 a a1 a2⟩
  · rw [hk 2 0 (by omega)]; unfold stk; rw [if_pos (by omega)]; exact s1
  · rw [hk 2 1 (by omega)]; unfold stk; rw [if_pos (by omega)]; exact s3
  · rw [hk 3 q (by omega)]; unfold stk; rw [if_pos (by omega)]; exact s4 q hq
  · rw [hk 4 q (by omega)]; unfold stk; rw [if_pos (by omega)]; exact s5 q hq
  · rw [hk 2 2 (by omega)]; unfold stk; rw [if_pos (by omega)]; exact s6
  · rw [hk 2 1 (by omega)]; unfold stk; rw [if_pos (by omega)]
  · rw [hk 3 j (by omega)]; unfold stk; rw [if_pos (by omega)]
  · rw [b4 v hv]; rfl
theorem cw_ok {M M1 M' : fM} {w : Nat} {p : Int} (hx : xOk M w p) (hb : bgS (stk M 18 0) M1 w p) (h : cwR M1 M' w p (M 2 0 1) (M 3 0) (fun i => (M1 15 0 i).toNat) (cn (loK (M 2 0 1) w) (M 3 0) (2 * w - 1)) (2 ^ cn (loK (M 2 0 1) w) (M 3 0) (2 * w - 1))) : vS M M' ∧ gI M' ∧ M' 13 0 3 = p ∧ M' 2 20 0 = (w : Int) ∧ M' 2 20 1 = M 2 0 1 ∧ (∀ j, j < 2 * w - 1 → M 3 0 j = M' 3 20 j) ∧ ∃ pl l, WpG M' w p (M 2 0 1) pl l := by
  obtain ⟨f1, f2, f3, f4, f5, f6, f7, f8⟩ := cw_fin (M' := M') hx hb
  have hw6 := hx.2.2.1.2.1
  have e : ∀ k a b, k ≠ 8 → k ≠ 10 → k ≠ 11 → k ≠ 12 → k ≠ 14 → ¬ ((k = 2 ∨ k = 3 ∨ k = 4) ∧ a = 18) → M' k a b = M1 k a b := h.1
  have e20 : ∀ j, j < 2 * w - 1 → M 3 0 j = M' 3 20 j := fun j hj => by rw [e 3 20 j (by decide) (by decide) (by decide) (by decide) (by decide) (by omega), f7 j (by omega)]
  refine ⟨fun k a b q1 q2 q3 q4 q5 q6 q7 q8 => (e k a b q1 q2 q3 q4 q6 (by omega)).trans (f8 k a b q1 q2 q3 q4 q5 q6 q7 q8), h.2.1, by rw [e 13 0 3 (by decide) (by decide) (by decide) (by decide) (by decide) (by omega)]; exact f4, by rw [e 2 20 0 (by decide) (by decide) (by decide) (by decide) (by decide) (by omega)]; exact f5, by rw [e 2 20 1 (by decide) (by decide) (by decide) (by decide) (by decide) (by omega)]; exact f6, e20, fun i => (M1 15 0 i).toNat, cn (loK (M 2 0 1) w) (M 3 0) (2 * w - 1), ?_, cn_c e20, fun k hk h1 h2 => ?_, fun v hv => ?_, hw6⟩
  · rw [e 13 0 2 (by decide) (by decide) (by decide) (by decide) (by decide) (by omega)]; exact f1.1
  · rw [← e20 k hk] at h2
    rw [← cn_c (L := M 3 0) (fun j hj => e20 j (by omega))]
    exact f3 k hk h1 h2
  · rw [h.2.2.2.2.2 v hv, cz_c hx.2.2.1.2.2.1 e20]
set_option maxHeartbeats 4000000 in
set_option maxRecDepth 100000 in
theorem c_countWipes {g : fG} {M : fM} {w : Nat} {p : Int} (hx : xOk M w p) :
    fCv g Y_X6_countWipes [vr 0 0] M (fun M' => vS M M' ∧ gI M' ∧ M' 13 0 3 = p ∧ M' 2 20 0 = (w : Int) ∧ M' 2 20 1 = M 2 0 1 ∧ (∀ j, j < 2 * w - 1 → M 3 0 j = M' 3 20 j) ∧ ∃ pl l, WpG M' w p (M 2 0 1) pl l) := by
  have hw1 := hx.2.2.1.2.1
  have hp2 := hx.2.1.1
  refine fCv_of _ [some (vr 0 0), none, none, none] (by decide) (Nat.le_of_ble_eq_true rfl) rfl (fun h => h) ?_
  refine st_aload_n dX6_countWipes_0 rfl ?_
  refine st_getr (i' := 18) dX6_countWipes_1 fl_X6_40 rfl rfl rfl (fun _ => by decide) ?_
  refine st_aload_n dX6_countWipes_4 rfl ?_
  refine st_getr (i' := 0) dX6_countWipes_5 fl_X6_12 rfl rfl rfl (fun _ => by decide) ?_
  refine st_getr (i' := 0) dX6_countWipes_8 fl_X6_76 rfl rfl rfl (fun _ => by decide) ?_
  refine st_callVv [vr 2 0] [] dX6_countWipes_11 vl_X6_102 rfl rfl rfl rfl (Nat.le_of_ble_eq_true rfl) (by decide) (c_takeFrom (by decide)) (fun Ma qa => ?_)
  subst qa
  refine st_aload_n dX6_countWipes_14 rfl ?_
  refine st_getr (i' := 0) dX6_countWipes_15 fl_X6_47 rfl rfl rfl (fun _ => by decide) ?_
  refine st_aload_n dX6_countWipes_18 rfl ?_
  refine st_getr (i' := 0) dX6_countWipes_19 fl_X6_12 rfl rfl rfl (fun _ => by decide) ?_
  refine st_getr (i' := 0) dX6_countWipes_22 fl_X6_76 rfl rfl rfl (fun _ => by decide) ?_
  refine st_aload_n dX6_countWipes_25 rfl ?_
  refine st_getr (i' := 0) dX6_countWipes_26 fl_X6_12 rfl rfl rfl (fun _ => by decide) ?_
  refine st_get dX6_countWipes_29 fl_X6_72 rfl rfl rfl ?_
  refine fAt_v (x' := p) ((stk18 (by omega)).trans hx.1) ?_
  refine st_callVv [vr 2 0, vi p] [] dX6_countWipes_32 vl_X6_300 rfl rfl rfl rfl (Nat.le_of_ble_eq_true rfl) (by decide) (c_begin2 (w := w) ((stk18 (by omega)).trans hx.2.2.1.1) hx.2.2.1.2.1 (by rw [stk18 (by omega)]; exact hx.2.2.1.2.2.1)) (fun M1 q1 => ?_)
  refine st_iconst dX6_countWipes_35 (by decide) ?_
  refine st_istore_n (ls' := [some (vr 0 0), some (vi 0), none, none]) dX6_countWipes_36 (by decide) rfl rfl ?_
  obtain ⟨f1, f2, f3⟩ := cw_fin (M' := M1) hx q1
  refine fAt_q (fun r M' h => ?_) (cw_o f1 (2 ^ cn (loK (M 2 0 1) w) (M 3 0) (2 * w - 1)) 0 M1 (Nat.zero_add _) f2)
  exact ⟨h.1, cw_ok hx q1 h.2⟩
