/-! ===== sheets ===== -/
theorem Rel_sh {C D C' D' : fM} (h : Rel2 C D) (hC : ∀ k a b, k < 22 → k ≠ 20 → k ≠ 21 → C' k a b = C k a b) (hD : ∀ k a b, 22 ≤ k → k ≠ 33 → k ≠ 34 → k ≠ 35 → k ≠ 36 → D' k a b = D k a b) (hs : shR C' D') : Rel2 C' D' := by
  have hc : ∀ k a b, k < 20 → C' k a b = C k a b := fun k a b h => hC k a b (by omega) (by omega) (by omega)
  have hd : ∀ k a b, 22 ≤ k ∧ k < 33 → D' k a b = D k a b := fun k a b h => hD k a b (by omega) (by omega) (by omega) (by omega) (by omega)
  have key : ∀ {i A c0 w : Nat} {p : Int}, 22 ≤ A ∧ A < 33 → sg C i D A c0 w p → sg C' i D' A c0 w p := fun hA h => sg_c h (fun k b hk => hc k _ b (by omega)) (fun b _ => hd _ _ _ hA)
  obtain ⟨⟨w, p, kn, od, ⟨x1, x2, x3, x4⟩, g0, b1, b2, b3⟩, hk, ⟨n, n1, n2, n3, n4, n5⟩, -, hW⟩ := h
  have g0' := key (by decide) g0
  refine ⟨⟨w, p, kn, od, ⟨by rw [hc _ _ _ (by decide)]; exact x1, x2, g0'.1, x4.choose, ?_⟩, g0', BkH_c b1 (fun b => hc _ _ _ (by decide)), by rw [hd _ _ _ (by decide)]; exact b2, fun t ht => ?_⟩, ?_, ⟨n, n1, by rw [hc _ _ _ (by decide)]; exact n2, by rw [hd _ _ _ (by decide)]; exact n3, fun q => ?_, fun q hq => ?_⟩, hs, Wp_z hW (fun k a b hk => hc k a b (by omega))⟩
  · obtain ⟨q1, q2, q3⟩ := x4.choose_spec
    exact ⟨by rw [hc _ _ _ (by decide)]; exact q1, q2, fun a a1 a2 => by rw [hc _ _ _ (by decide)]; exact q3 a a1 a2⟩
  · obtain ⟨w', h⟩ := b3 t ht
    exact ⟨w', key (by decide) h⟩
  · rcases hk with ⟨k1, k2⟩ | ⟨k1, w2, p2, kn2, od2, k2, k3, k4, k5, k6, k7, k8, k9, k10⟩
    · exact Or.inl ⟨by rw [hc _ _ _ (by decide)]; exact k1, by rw [hd _ _ _ (by decide)]; exact k2⟩
    · refine Or.inr ⟨by rw [hc _ _ _ (by decide)]; exact k1, w2, p2, kn2, od2, k2, by rw [hc _ _ _ (by decide)]; exact k3, by rw [hc _ _ _ (by decide)]; exact k4, by rw [hc _ _ _ (by decide)]; exact k5, k6, k7, by rw [hd _ _ _ (by decide)]; exact k8, key (by decide) k9, fun t ht => ?_⟩
      obtain ⟨w', h⟩ := k10 t ht
      exact ⟨w', key (by decide) h⟩
  · rw [hd _ _ _ (by decide), hc _ _ _ (by decide)]; exact n4 q
  · rw [hc _ _ _ (by decide)]; exact n5 q hq
theorem shL_of {C D : fM} (h : shR C D) : shL C := fun s hs => (h s hs).2.2.1
theorem mzL_of {C D : fM} (h : shR C D) : mzL D := fun s hs => (h s hs).2.2.2.2.1
theorem rf_2 {C D : fM} (h : shR C D) {s la i n : Int} (hn : 0 ≤ n) : mfs D s la i n = rfs C s la i n := by
  unfold mfs rfs wys
  by_cases h0 : ¬ (0 ≤ s ∧ s < 4) ∨ ¬ (0 ≤ la ∧ la < 4)
  · rw [if_pos h0, if_pos h0]
  · rw [if_neg h0, if_neg h0]
    obtain ⟨s1, s2, s3, s4, s5, s6⟩ := h s.toNat (by omega)
    rw [s2]
    by_cases h1 : C 20 s.toNat 0 = -1
    · rw [if_pos h1, if_pos (by omega)]
    · have h1' : ¬ C 20 s.toNat 0 < 0 := by omega
      rw [if_neg h1, if_neg h1', s4 h1]
      by_cases h2 : C 20 s.toNat 0 = la
      · have h2' : ¬ C 20 s.toNat 0 ≠ la := fun q => q h2
        rw [if_neg h2', if_neg h2']
        by_cases h3 : 0 ≤ i ∧ 0 ≤ n ∧ i + n ≤ C 20 s.toNat 1
        · rw [if_pos h3, if_neg (by omega)]
        · rw [if_neg h3, if_pos (by omega)]
      · rw [if_pos h2, if_pos h2]
theorem cp_2 {C D : fM} (h : shR C D) {f i t j n : Int} : mcR D f i t j n = cpR C f i t j n := by
  unfold mcR cpR
  by_cases h0 : ¬ (0 ≤ f ∧ f < 4) ∨ ¬ (0 ≤ t ∧ t < 4)
  · rw [if_pos h0, if_pos h0]
  · rw [if_neg h0, if_neg h0]
    obtain ⟨s1, s2, s3, s4, s5, s6⟩ := h f.toNat (by omega)
    obtain ⟨t1, t2, t3, t4, t5, t6⟩ := h t.toNat (by omega)
    rw [s2, t2]
    by_cases h1 : C 20 f.toNat 0 = -1 ∨ C 20 t.toNat 0 = -1
    · rw [if_pos h1, if_pos (by omega)]
    · have h1' : ¬ (C 20 f.toNat 0 < 0 ∨ C 20 t.toNat 0 < 0) := by omega
      rw [if_neg h1, if_neg h1', s4 (by omega), t4 (by omega)]
theorem shR_M {M M1 : fM} (hR : Rel M) (h : hiS M M1) : shR M M1 := (Rel2_D hR h).2.2.2.1
theorem shB_l0 {M : fM} {i t c : Nat} {la n : Int} : shB M i la n c 20 t 0 = if t = i then la else M 20 t 0 := by simp [shB]
theorem shB_l1 {M : fM} {i t c : Nat} {la n : Int} : shB M i la n c 20 t 1 = if t = i then n else M 20 t 1 := by simp [shB]
theorem shB_l2 {M : fM} {i t c q : Nat} {la n : Int} : shB M i la n c 21 t q = if t = i ∧ q < c then 0 else M 21 t q := by simp [shB]
theorem mSh_l0 {M : fM} {s t c : Nat} {la n : Int} : mSh M s la n c 33 0 t = if t = s then la else M 33 0 t := by simp [mSh]
theorem mSh_l1 {M : fM} {s t c : Nat} {la n : Int} : mSh M s la n c 34 0 t = if t = s then n else M 34 0 t := by simp [mSh]
theorem mSh_l2 {M : fM} {s q c : Nat} {la n : Int} : mSh M s la n c 35 0 q = if 24 * s ≤ q ∧ q < 24 * s + c then 0 else M 35 0 q := by simp [mSh]
theorem shR_sb {C D : fM} (h : shR C D) {s : Nat} {la n : Int} (hl : 0 ≤ la ∧ la < 4) (hn : 0 ≤ n ∧ n ≤ 24) : shR (shB C s la n 24) (mSh D s la n 24) := by
  intro t ht
  obtain ⟨s1, s2, s3, s4, s5, s6⟩ := h t ht
  rw [shB_l0, shB_l1, mSh_l0, mSh_l1]
  by_cases e : t = s
  · rw [if_pos e, if_pos e, if_pos e, if_pos e]
    refine ⟨by omega, rfl, hn, fun _ => rfl, hn, fun q hq => ?_⟩
    rw [mSh_l2, shB_l2, if_pos (by omega), if_pos ⟨e, hq⟩]
  · rw [if_neg e, if_neg e, if_neg e, if_neg e]
    refine ⟨s1, s2, s3, s4, s5, fun q hq => ?_⟩
    rw [mSh_l2, shB_l2, if_neg (by omega), if_neg (fun z => e z.1)]
    exact s6 q hq
theorem rs_sheet {M M1 M2 : fM} {s la n z z' : Int} (hR : Rel M)
    (h1 : (¬ ((0 ≤ s ∧ s < 4) ∧ (0 ≤ la ∧ la < 4) ∧ n ≤ 24) ∧ z = -1 ∧ M1 = M) ∨ (((0 ≤ s ∧ s < 4) ∧ (0 ≤ la ∧ la < 4) ∧ n ≤ 24) ∧ ((n < 0 ∧ z = -14 ∧ M1 = M) ∨ (0 ≤ n ∧ z = n ∧ M1 = shB M s.toNat la n 24))))
    (h2 : (¬ ((0 ≤ s ∧ s < 4) ∧ (0 ≤ la ∧ la < 4) ∧ n ≤ 24) ∧ z' = -1 ∧ M2 = M1) ∨ (((0 ≤ s ∧ s < 4) ∧ (0 ≤ la ∧ la < 4) ∧ n ≤ 24) ∧ ((n < 0 ∧ z' = -14 ∧ M2 = M1) ∨ (0 ≤ n ∧ z' = n ∧ M2 = mSh M1 s.toNat la n 24)))) : z = z' ∧ Rel M2 := by
  rcases h1 with ⟨a0, rfl, e1⟩ | ⟨a0, ⟨a1, rfl, e1⟩ | ⟨a1, hz, e1⟩⟩ <;> rcases h2 with ⟨b0, rfl, e2⟩ | ⟨b0, ⟨b1, rfl, e2⟩ | ⟨b1, hz2, e2⟩⟩ <;> first | (exfalso; omega) | skip
  · rw [e2, e1]; exact ⟨rfl, hR⟩
  · rw [e2, e1]; exact ⟨rfl, hR⟩
  · refine ⟨hz.trans hz2.symm, ?_⟩
    have hh : hiS M M1 := by rw [e1]; exact hiS_sb
    have r := Rel2_D hR hh
    rw [e2]
    refine Rel_end (M1 := M1) (Rel_sh r (fun k a b q0 q1 q2 => ?_) (fun k a b q0 q1 q2 q3 q4 => ?_) ?_) loS_sh
    · rw [e1]; unfold shB; rw [if_neg (by omega), if_neg (by omega), if_neg (by omega)]
    · unfold mSh; rw [if_neg (by omega), if_neg (by omega), if_neg (by omega)]
    · have := shR_sb r.2.2.2.1 (s := s.toNat) (la := la) (n := n) a0.2.1 ⟨a1, a0.2.2⟩
      rw [← e1] at this
      exact this
theorem rs_drop {M M1 M2 : fM} {s z z' : Int} (hR : Rel M)
    (h1 : (¬ (0 ≤ s ∧ s < 4) ∧ z = -1 ∧ M1 = M) ∨ ((0 ≤ s ∧ s < 4) ∧ ((M 20 s.toNat 0 = -1 ∧ z = -11 ∧ M1 = M) ∨ (M 20 s.toNat 0 ≠ -1 ∧ z = M 20 s.toNat 1 ∧ M1 = fup (fup M 20 s.toNat 0 (-1)) 20 s.toNat 1 0))))
    (h2 : (¬ (0 ≤ s ∧ s < 4) ∧ z' = -1 ∧ M2 = M1) ∨ ((0 ≤ s ∧ s < 4) ∧ ((M1 33 0 s.toNat < 0 ∧ z' = -11 ∧ M2 = M1) ∨ (0 ≤ M1 33 0 s.toNat ∧ z' = M1 34 0 s.toNat ∧ M2 = fup M1 33 0 s.toNat (-1))))) : z = z' ∧ Rel M2 := by
  by_cases a0 : 0 ≤ s ∧ s < 4
  · have hh : hiS M M1 := by
      rcases h1 with ⟨_, _, e1⟩ | ⟨_, ⟨_, _, e1⟩ | ⟨_, _, e1⟩⟩
      · rw [e1]; exact hiS_r M
      · rw [e1]; exact hiS_r M
      · rw [e1]; exact hiS_t (hiS_up (by decide)) (hiS_up (by decide))
    have r := Rel2_D hR hh
    obtain ⟨s1, s2, s3, s4, s5, s6⟩ := r.2.2.2.1 s.toNat (by omega)
    rcases h1 with ⟨q, _⟩ | ⟨_, ⟨a1, rfl, e1⟩ | ⟨a1, rfl, e1⟩⟩
    · exact absurd a0 q
    · rcases h2 with ⟨q, _⟩ | ⟨_, ⟨b1, rfl, e2⟩ | ⟨b1, rfl, e2⟩⟩
      · exact absurd a0 q
      · rw [e2, e1]; exact ⟨rfl, hR⟩
      · exfalso; omega
    · rcases h2 with ⟨q, _⟩ | ⟨_, ⟨b1, rfl, e2⟩ | ⟨b1, rfl, e2⟩⟩
      · exact absurd a0 q
      · exfalso; omega
      · refine ⟨(s4 a1).symm, ?_⟩
        rw [e2]
        refine Rel_end (M1 := M1) (Rel_sh r (fun k a b q0 q1 q2 => ?_) (fun k a b q0 q1 q2 q3 q4 => fup_ne (by omega)) ?_) (loS_up (by decide))
        · rw [e1, fup_ne (by omega), fup_ne (by omega)]
        · intro t ht
          obtain ⟨t1, t2, t3, t4, t5, t6⟩ := r.2.2.2.1 t ht
          by_cases e : t = s.toNat
          · have c0 : M1 20 t 0 = -1 := by rw [e1, e, fup_ne (by omega), fup_eq]
            have c1 : M1 20 t 1 = 0 := by rw [e1, e, fup_eq]
            have c2 : ∀ q, M1 21 t q = M 21 t q := fun q => by rw [e1, fup_ne (by omega), fup_ne (by omega)]
            have d0 : fup M1 33 0 s.toNat (-1) 33 0 t = -1 := by rw [e, fup_eq]
            have d1 : fup M1 33 0 s.toNat (-1) 34 0 t = M1 34 0 t := fup_ne (by omega)
            rw [c0, c1, d0, d1]
            refine ⟨Or.inl rfl, rfl, by decide, fun q => absurd rfl q, t5, fun q hq => ?_⟩
            rw [fup_ne (by omega), c2]
            exact t6 q hq
          · have c0 : ∀ k b, (k = 20 ∨ k = 21) → M1 k t b = M k t b := fun k b hk => by rw [e1, fup_ne (by omega), fup_ne (by omega)]
            rw [c0 20 0 (by omega), c0 20 1 (by omega), fup_ne (by omega), fup_ne (by omega)]
            refine ⟨t1, t2, t3, t4, t5, fun q hq => ?_⟩
            rw [fup_ne (by omega), c0 21 q (by omega)]
            exact t6 q hq
  · rcases h1 with ⟨_, rfl, e1⟩ | ⟨q, _⟩
    · rcases h2 with ⟨_, rfl, e2⟩ | ⟨q, _⟩
      · rw [e2, e1]; exact ⟨rfl, hR⟩
      · exact absurd q a0
    · exact absurd q a0
theorem rfs_z0 {M : fM} {s la i n : Int} (hs : shL M) (h : rfs M s la i n = 0) : (0 ≤ s ∧ s < 4) ∧ (0 ≤ la ∧ la < 4) ∧ 0 ≤ i ∧ 0 ≤ n ∧ i + n ≤ 24 := by
  unfold rfs at h
  by_cases h0 : ¬ (0 ≤ s ∧ s < 4) ∨ ¬ (0 ≤ la ∧ la < 4)
  · rw [if_pos h0] at h; exact absurd h (by decide)
  · rw [if_neg h0] at h
    have hl := hs s.toNat (by omega)
    by_cases h1 : M 20 s.toNat 0 = -1
    · rw [if_pos h1] at h; exact absurd h (by decide)
    · rw [if_neg h1] at h
      by_cases h2 : M 20 s.toNat 0 ≠ la
      · rw [if_pos h2] at h; exact absurd h (by decide)
      · rw [if_neg h2] at h
        by_cases h3 : 0 ≤ i ∧ 0 ≤ n ∧ i + n ≤ M 20 s.toNat 1
        · exact ⟨by omega, by omega, by omega, by omega, by omega⟩
        · rw [if_neg h3] at h; exact absurd h (by decide)
theorem rs_item {M M1 M2 : fM} {s la i v z z' : Int} (hR : Rel M)
    (h1 : (rfs M s la i 1 ≠ 0 ∧ z = rfs M s la i 1 ∧ M1 = M) ∨ (rfs M s la i 1 = 0 ∧ z = 1 ∧ M1 = fup M 21 s.toNat i.toNat (lwb la v)))
    (h2 : (mfs M1 s la i 1 ≠ 0 ∧ z' = mfs M1 s la i 1 ∧ M2 = M1) ∨ (mfs M1 s la i 1 = 0 ∧ z' = 1 ∧ M2 = fup M1 35 0 (24 * s.toNat + i.toNat) (lwb la v))) : z = z' ∧ Rel M2 := by
  have hh : hiS M M1 := by
    rcases h1 with ⟨_, _, e1⟩ | ⟨_, _, e1⟩
    · rw [e1]; exact hiS_r M
    · rw [e1]; exact hiS_up (by decide)
  have r := Rel2_D hR hh
  rw [rf_2 r.2.2.2.1 (by decide)] at h2
  rcases h1 with ⟨a1, rfl, e1⟩ | ⟨a1, rfl, e1⟩ <;> rcases h2 with ⟨b1, rfl, e2⟩ | ⟨b1, rfl, e2⟩
  · rw [e2, e1]; exact ⟨rfl, hR⟩
  · exact absurd b1 a1
  · exact absurd a1 b1
  · refine ⟨rfl, ?_⟩
    obtain ⟨c1, c2, c3, c4, c5⟩ := rfs_z0 (shL_of hR.2.2.2.1) a1
    rw [e2]
    refine Rel_end (M1 := M1) (Rel_sh r (fun k a b q0 q1 q2 => by rw [e1, fup_ne (by omega)]) (fun k a b q0 q1 q2 q3 q4 => fup_ne (by omega)) ?_) (loS_up (by decide))
    intro t ht
    obtain ⟨t1, t2, t3, t4, t5, t6⟩ := r.2.2.2.1 t ht
    have c0 : ∀ b, M1 20 t b = M 20 t b := fun b => by rw [e1, fup_ne (by omega)]
    rw [c0, c0, fup_ne (by omega), fup_ne (by omega)]
    refine ⟨t1, t2, t3, t4, t5, fun q hq => ?_⟩
    by_cases e : t = s.toNat ∧ q = i.toNat
    · rw [e.1, e.2, fup_eq, e1, fup_eq]
    · have e3 : M1 21 t q = M 21 t q := by rw [e1, fup_ne (by omega)]
      rw [fup_ne (by omega), e3]
      exact t6 q hq
theorem rs_copy {M M1 M2 : fM} {f i t j n z z' : Int} (hR : Rel M)
    (h1 : (cpR M f i t j n ≠ 0 ∧ z = cpR M f i t j n ∧ M1 = M) ∨ (cpR M f i t j n = 0 ∧ ((0 ≤ f ∧ f < 4) ∧ (0 ≤ t ∧ t < 4)) ∧ ((0 ≤ i ∧ 0 ≤ n ∧ i + n ≤ M 20 f.toNat 1) ∧ (0 ≤ j ∧ j + n ≤ M 20 t.toNat 1)) ∧ z = n ∧ M1 = fcp M 21 f.toNat i.toNat 21 t.toNat j.toNat n.toNat))
    (h2 : (mcR M1 f i t j n ≠ 0 ∧ z' = mcR M1 f i t j n ∧ M2 = M1) ∨ (mcR M1 f i t j n = 0 ∧ z' = n ∧ M2 = mCp M1 (24 * f.toNat + i.toNat) (24 * t.toNat + j.toNat) n.toNat n.toNat)) : z = z' ∧ Rel M2 := by
  have hh : hiS M M1 := by
    rcases h1 with ⟨_, _, e1⟩ | ⟨_, _, _, _, e1⟩
    · rw [e1]; exact hiS_r M
    · rw [e1]; exact hiS_cp
  have r := Rel2_D hR hh
  rw [cp_2 r.2.2.2.1] at h2
  rcases h1 with ⟨a1, rfl, e1⟩ | ⟨a1, a2, a3, hz, e1⟩ <;> rcases h2 with ⟨b1, rfl, e2⟩ | ⟨b1, hz2, e2⟩
  · rw [e2, e1]; exact ⟨rfl, hR⟩
  · exact absurd b1 a1
  · exact absurd a1 b1
  · refine ⟨hz.trans hz2.symm, ?_⟩
    have hf := shL_of hR.2.2.2.1 f.toNat (by omega)
    have ht' := shL_of hR.2.2.2.1 t.toNat (by omega)
    have sf := (r.2.2.2.1 f.toNat (by omega)).2.2.2.2.2
    rw [e2]
    refine Rel_end (M1 := M1) (Rel_sh r (fun k a b q0 q1 q2 => ?_) (fun k a b q0 q1 q2 q3 q4 => ?_) ?_) loS_cp
    · rw [e1]; unfold fcp; rw [if_neg (by omega)]
    · unfold mCp; rw [if_neg (by omega), if_neg (by omega)]
    · intro u hu
      obtain ⟨t1, t2, t3, t4, t5, t6⟩ := r.2.2.2.1 u hu
      have c0 : ∀ b, M1 20 u b = M 20 u b := fun b => by rw [e1]; unfold fcp; rw [if_neg (by omega)]
      have d0 : ∀ k b, k = 33 ∨ k = 34 → mCp M1 (24 * f.toNat + i.toNat) (24 * t.toNat + j.toNat) n.toNat n.toNat k 0 b = M1 k 0 b := fun k b hk => by unfold mCp; rw [if_neg (by omega), if_neg (by omega)]
      rw [c0, c0, d0 33 u (by omega), d0 34 u (by omega)]
      refine ⟨t1, t2, t3, t4, t5, fun q hq => ?_⟩
      have eC : M1 21 u q = if u = t.toNat ∧ j.toNat ≤ q ∧ q < j.toNat + n.toNat then M 21 f.toNat (i.toNat + (q - j.toNat)) else M 21 u q := by rw [e1]; unfold fcp; simp
      have eD : mCp M1 (24 * f.toNat + i.toNat) (24 * t.toNat + j.toNat) n.toNat n.toNat 35 0 (24 * u + q) = if 24 * t.toNat + j.toNat ≤ 24 * u + q ∧ 24 * u + q < 24 * t.toNat + j.toNat + n.toNat then M1 35 0 (24 * f.toNat + i.toNat + (24 * u + q - (24 * t.toNat + j.toNat))) else M1 35 0 (24 * u + q) := by unfold mCp; simp
      rw [eC, eD]
      by_cases e : u = t.toNat ∧ j.toNat ≤ q ∧ q < j.toNat + n.toNat
      · rw [if_pos e, if_pos (by omega), show 24 * f.toNat + i.toNat + (24 * u + q - (24 * t.toNat + j.toNat)) = 24 * f.toNat + (i.toNat + (q - j.toNat)) by omega]
        exact sf _ (by omega)
      · rw [if_neg e, if_neg (by omega)]
        exact t6 q hq
theorem CmS_c {p : Int} {w : Nat} {L L' x x' : Nat → Int} {z z' : Int} (eL : ∀ q, q < 2 * w - 1 → L q = L' q) (ex : ∀ c, c < 2 * w → x c = x' c) (h : CmS p w L x z) (h' : CmS p w L' x' z') : z = z' := by
  have en : nmS p x (2 * w) ↔ nmS p x' (2 * w) := ⟨fun q c hc => by rw [← ex c hc]; exact q c hc, fun q c hc => by rw [ex c hc]; exact q c hc⟩
  rcases h with ⟨a, rfl⟩ | ⟨a, rfl⟩ <;> rcases h' with ⟨b, rfl⟩ | ⟨b, rfl⟩
  · rfl
  · exact absurd (en.mpr b) a
  · exact absurd (en.mp a) b
  · exact kst_c (fun kd _ => alE_c (fun q hq => ⟨rtS_c hq (fun a b ha hb => ent_congr eL ha hb) (fun c hc => ex c (by omega)), ex (w + q) (by omega)⟩))
theorem it_2 {M M1 : fM} (h : shR M M1) {s o : Nat} (hs : s < 4) {n : Nat} (ho : o + n ≤ 24) : ∀ c, c < n → M 21 s (o + c) = M1 35 0 (24 * s + o + c) := fun c hc => by
  rw [Nat.add_assoc]
  exact ((h s hs).2.2.2.2.2 (o + c) (by omega)).symm
theorem rs_came {M M1 M2 : fM} {w : Nat} {p : Int} {kn od : Nat} {s la i z z' : Int} (hR : Rel M) (hc : core M M w p kn od)
    (h1 : ((rfs M s la i (2 * (w : Int)) ≠ 0 ∧ z = rfs M s la i (2 * (w : Int))) ∨ (rfs M s la i (2 * (w : Int)) = 0 ∧ CmS p w (M 3 0) (fun c => M 21 s.toNat (i.toNat + c)) z)) ∧ uS M M1 ∧ gI M1)
    (h2 : ((mfs M1 s la i (2 * (w : Int)) ≠ 0 ∧ z' = mfs M1 s la i (2 * (w : Int))) ∨ (mfs M1 s la i (2 * (w : Int)) = 0 ∧ CmS p w (lL M1) (fun c => M1 35 0 (24 * s.toNat + i.toNat + c)) z')) ∧ M2 = M1) : z = z' ∧ Rel M2 := by
  obtain ⟨a, hS, hg⟩ := h1
  obtain ⟨b, e2⟩ := h2
  have r := Rel2_D hR (hiS_z (zS_u hS))
  rw [e2]
  refine ⟨?_, rq_u hR hS hg (mS_r M1)⟩
  rw [rf_2 r.2.2.2.1 (by omega)] at b
  rcases a with ⟨a1, rfl⟩ | ⟨a1, a2⟩ <;> rcases b with ⟨b1, rfl⟩ | ⟨b1, b2⟩
  · rfl
  · exact absurd b1 a1
  · exact absurd a1 b1
  · obtain ⟨c1, c2, c3, c4, c5⟩ := rfs_z0 (shL_of hR.2.2.2.1) a1
    exact CmS_c (fun q hq => ((sg_L (sgz hc.2.1 (zS_u hS))).1 q hq).symm) (it_2 r.2.2.2.1 (by omega) (by omega)) a2 b2
theorem shR_ap {C D : fM} (h : shR C D) {s o n : Nat} {v v' : Nat → Int} (ho : o + n ≤ 24) (hv : ∀ c, c < n → v c = v' c) : shR (apM C s o n v) (mAp D (24 * s + o) n v') := by
  intro t ht
  obtain ⟨t1, t2, t3, t4, t5, t6⟩ := h t ht
  rw [apM_off (by decide), apM_off (by decide), mAp_off (by decide), mAp_off (by decide)]
  refine ⟨t1, t2, t3, t4, t5, fun q hq => ?_⟩
  have eC : apM C s o n v 21 t q = if t = s ∧ o ≤ q ∧ q < o + n then v (q - o) else C 21 t q := by unfold apM; simp
  have eD : mAp D (24 * s + o) n v' 35 0 (24 * t + q) = if 24 * s + o ≤ 24 * t + q ∧ 24 * t + q < 24 * s + o + n then v' (24 * t + q - (24 * s + o)) else D 35 0 (24 * t + q) := by unfold mAp; simp
  rw [eC, eD]
  by_cases e : t = s ∧ o ≤ q ∧ q < o + n
  · rw [if_pos e, if_pos (by omega), show 24 * t + q - (24 * s + o) = q - o by omega]
    exact (hv _ (by omega)).symm
  · rw [if_neg e, if_neg (by omega)]
    exact t6 q hq
theorem rq_ap {M M1 M2 : fM} {s o n : Nat} {v v' : Nat → Int} (hR : Rel M) (ho : o + n ≤ 24) (hv : ∀ c, c < n → v c = v' c) (hS : uS (apM M s o n v) M1) (hg : gI M1) (hm : mS (mAp M1 (24 * s + o) n v') M2) : Rel M2 := by
  have r := Rel2_D hR (hiS_t hiS_ap (hiS_z (zS_u hS)))
  have r2 : Rel2 (apM M s o n v) (mAp M1 (24 * s + o) n v') := Rel_sh r (fun k a b _ _ q2 => apM_off q2) (fun k a b _ _ _ q3 _ => mAp_off q3) (shR_ap r.2.2.2.1 ho hv)
  exact Rel_end (Rel_z r2 (zS_u hS) hg (wp_u r2.2.2.2.2 hS) hm) (loS_t loS_ap (loS_m hm))
theorem rs_apply {M M1 M2 : fM} {w : Nat} {p : Int} {kn od : Nat} {s la i z z' : Int} (hR : Rel M) (hc : core M M w p kn od)
    (h1 : ((rfs M s la i (2 * (w : Int)) ≠ 0 ∧ z = rfs M s la i (2 * (w : Int)) ∧ uS M M1) ∨ (rfs M s la i (2 * (w : Int)) = 0 ∧ ((¬ nmS p (fun c => M 21 s.toNat (i.toNat + c)) w ∧ z = -2 ∧ uS M M1) ∨ (nmS p (fun c => M 21 s.toNat (i.toNat + c)) w ∧ z = 1 ∧ uS (apM M s.toNat (i.toNat + w) w (rtS p w (eM M 0 w p) (fun c => M 21 s.toNat (i.toNat + c)))) M1)))) ∧ gI M1)
    (h2 : (mfs M1 s la i (2 * (w : Int)) ≠ 0 ∧ z' = mfs M1 s la i (2 * (w : Int)) ∧ M2 = M1) ∨ (mfs M1 s la i (2 * (w : Int)) = 0 ∧ ((¬ nmS p (fun c => M1 35 0 (24 * s.toNat + i.toNat + c)) w ∧ z' = -2 ∧ M2 = M1) ∨ (nmS p (fun c => M1 35 0 (24 * s.toNat + i.toNat + c)) w ∧ z' = 1 ∧ M2 = mAp M1 ((24 * s.toNat + i.toNat) + w) w (rtS p w (eN M1 w p) (fun c => M1 35 0 (24 * s.toNat + i.toNat + c))))))) : z = z' ∧ Rel M2 := by
  obtain ⟨a, hg⟩ := h1
  have hh : hiS M M1 := by
    rcases a with ⟨_, _, hS⟩ | ⟨_, ⟨_, _, hS⟩ | ⟨_, _, hS⟩⟩
    · exact hiS_z (zS_u hS)
    · exact hiS_z (zS_u hS)
    · exact hiS_t hiS_ap (hiS_z (zS_u hS))
  have r := Rel2_D hR hh
  have hsg := sg_D hc.2.1 (by decide) hh
  rw [rf_2 r.2.2.2.1 (by omega)] at h2
  rcases a with ⟨a1, rfl, hS⟩ | ⟨a1, a2⟩
  · rcases h2 with ⟨b1, rfl, e2⟩ | ⟨b1, _⟩
    · rw [e2]; exact ⟨rfl, rq_u hR hS hg (mS_r M1)⟩
    · exact absurd b1 a1
  · obtain ⟨c1, c2, c3, c4, c5⟩ := rfs_z0 (shL_of hR.2.2.2.1) a1
    have hit := it_2 r.2.2.2.1 (s := s.toNat) (o := i.toNat) (n := w) (by omega) (by omega)
    have en : nmS p (fun c => M 21 s.toNat (i.toNat + c)) w ↔ nmS p (fun c => M1 35 0 (24 * s.toNat + i.toNat + c)) w := ⟨fun q c hc => by have := q c hc; dsimp only at this ⊢; rw [← hit c hc]; exact this, fun q c hc => by have := q c hc; dsimp only at this ⊢; rw [hit c hc]; exact this⟩
    rcases h2 with ⟨b1, _⟩ | ⟨b1, b2⟩
    · exact absurd a1 b1
    · rcases a2 with ⟨a3, rfl, hS⟩ | ⟨a3, rfl, hS⟩ <;> rcases b2 with ⟨b3, rfl, e2⟩ | ⟨b3, rfl, e2⟩
      · rw [e2]; exact ⟨rfl, rq_u hR hS hg (mS_r M1)⟩
      · exact absurd (en.mpr b3) a3
      · exact absurd (en.mp a3) b3
      · rw [Nat.add_assoc] at e2
        refine ⟨rfl, rq_ap hR (by omega) (fun c hc' => ?_) hS hg (by rw [e2]; exact mS_r _)⟩
        exact rtS_c hc' (fun a b ha hb => (ent_2 hsg a b ha hb).symm) hit
theorem rs_film {M M1 M2 : fM} {w : Nat} {p : Int} {kn od : Nat} {s la i z z' : Int} (hR : Rel M) (hc : core M M w p kn od)
    (h1 : ((rfs M s la i (w : Int) ≠ 0 ∧ z = rfs M s la i (w : Int) ∧ uS M M1) ∨ (rfs M s la i (w : Int) = 0 ∧ ∃ n a, SolZ p w (aug (eM M 0 w p) w (M 4 0)) n a ∧ ((n = 0 ∧ z = -4 ∧ uS M M1) ∨ (n ≠ 0 ∧ z = (if 9 < n then 9 else n) ∧ uS (apM M s.toNat i.toNat w a) M1)))) ∧ gI M1)
    (h2 : (mfs M1 s la i (w : Int) ≠ 0 ∧ z' = mfs M1 s la i (w : Int) ∧ M2 = M1) ∨ (mfs M1 s la i (w : Int) = 0 ∧ ∃ n a, SolZ p w (aug (eN M1 w p) w (lS M1)) n a ∧ ((n = 0 ∧ z' = -4 ∧ mS M1 M2) ∨ (n ≠ 0 ∧ z' = (if 9 < n then 9 else n) ∧ mS (mAp M1 (24 * s.toNat + i.toNat) w a) M2)))) : z = z' ∧ Rel M2 := by
  obtain ⟨a, hg⟩ := h1
  have hh : hiS M M1 := by
    rcases a with ⟨_, _, hS⟩ | ⟨_, _, _, _, ⟨_, _, hS⟩ | ⟨_, _, hS⟩⟩
    · exact hiS_z (zS_u hS)
    · exact hiS_z (zS_u hS)
    · exact hiS_t hiS_ap (hiS_z (zS_u hS))
  have r := Rel2_D hR hh
  have hsg := sg_D hc.2.1 (by decide) hh
  rw [rf_2 r.2.2.2.1 (by omega)] at h2
  rcases a with ⟨a1, rfl, hS⟩ | ⟨a1, n, al, a2, a3⟩
  · rcases h2 with ⟨b1, rfl, e2⟩ | ⟨b1, _⟩
    · rw [e2]; exact ⟨rfl, rq_u hR hS hg (mS_r M1)⟩
    · exact absurd b1 a1
  · obtain ⟨c1, c2, c3, c4, c5⟩ := rfs_z0 (shL_of hR.2.2.2.1) a1
    rcases h2 with ⟨b1, _⟩ | ⟨b1, n', bl, b2, b3⟩
    · exact absurd a1 b1
    · obtain ⟨e1, e2⟩ := SolZ_one hc.1.2.1.1.1 a2 (SolZ_c (aug_n hsg) b2)
      rcases a3 with ⟨a4, rfl, hS⟩ | ⟨a4, rfl, hS⟩ <;> rcases b3 with ⟨b4, rfl, hm⟩ | ⟨b4, rfl, hm⟩
      · exact ⟨rfl, rq_u hR hS hg hm⟩
      · exact absurd (e1.symm.trans a4) b4
      · exact absurd (e1.trans b4) a4
      · rw [← e1]
        exact ⟨rfl, rq_ap hR (by omega) (e2 a4) hS hg hm⟩
