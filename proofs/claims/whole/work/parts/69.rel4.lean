/-! ===== texts, images ===== -/
theorem rs_type {M M1 M2 : fM} {n : Nat} {c z z' : Int} (hR : Rel M) (hn6 : M 6 0 0 = (n : Int)) (hn5 : M 22 0 5 = (n : Int))
    (h1 : (¬ (32 ≤ c ∧ c ≤ 126) ∧ z = -1 ∧ M1 = M) ∨ ((32 ≤ c ∧ c ≤ 126) ∧ ((70 ≤ n ∧ z = -3 ∧ M1 = M) ∨ (n < 70 ∧ z = (n : Int) + 1 ∧ M1 = fup (fup M 7 0 n c) 6 0 0 ((n : Int) + 1)))))
    (h2 : (¬ (32 ≤ c ∧ c ≤ 126) ∧ z' = -1 ∧ M2 = M1) ∨ ((32 ≤ c ∧ c ≤ 126) ∧ ((70 ≤ n ∧ z' = -3 ∧ M2 = M1) ∨ (n < 70 ∧ z' = (n : Int) + 1 ∧ M2 = fup (fup M1 26 0 n c) 22 0 5 ((n : Int) + 1))))) : z = z' ∧ Rel M2 := by
  rcases h1 with ⟨a0, rfl, rfl⟩ | ⟨a0, ⟨a1, rfl, rfl⟩ | ⟨a1, rfl, rfl⟩⟩ <;> rcases h2 with ⟨b0, rfl, rfl⟩ | ⟨b0, ⟨b1, rfl, rfl⟩ | ⟨b1, rfl, rfl⟩⟩
  · exact ⟨rfl, hR⟩
  · exact absurd b0 a0
  · exact absurd b0 a0
  · exact absurd a0 b0
  · exact ⟨rfl, hR⟩
  · omega
  · exact absurd a0 b0
  · omega
  · have hR0 := hR
    obtain ⟨⟨w, p, kn, od, ⟨x1, x2, x3, x4⟩, g0, b1', b2, b3⟩, hk, ⟨n', n1, n2, n3, n4, n5⟩, hs, hW⟩ := hR
    have en : n' = n := by omega
    subst en
    have cC : ∀ k a b, k ≠ 7 → k ≠ 6 → fup (fup M 7 0 n' c) 6 0 0 ((n' : Int) + 1) k a b = M k a b := fun k a b q1 q2 => by rw [fup_ne (by omega), fup_ne (by omega)]
    have cD : ∀ k a b, 22 ≤ k → k ≠ 26 → ¬ (k = 22 ∧ b = 5) → fup (fup (fup (fup M 7 0 n' c) 6 0 0 ((n' : Int) + 1)) 26 0 n' c) 22 0 5 ((n' : Int) + 1) k a b = M k a b := fun k a b q0 q1 q2 => by rw [fup_ne (by omega), fup_ne (by omega), cC k a b (by omega) (by omega)]
    have key : ∀ {i A c0 w : Nat} {p : Int}, (A = 23 ∨ A = 28 ∨ A = 31 ∨ A = 32) → sg M i M A c0 w p → sg (fup (fup M 7 0 n' c) 6 0 0 ((n' : Int) + 1)) i (fup (fup (fup (fup M 7 0 n' c) 6 0 0 ((n' : Int) + 1)) 26 0 n' c) 22 0 5 ((n' : Int) + 1)) A c0 w p := fun hA h => sg_c h (fun k b hk => cC k _ b (by omega) (by omega)) (fun b _ => cD _ _ _ (by omega) (by omega) (by omega))
    have hgI : gI (fup (fup M 7 0 n' c) 6 0 0 ((n' : Int) + 1)) := ⟨x4.choose, by obtain ⟨q1, q2, q3⟩ := x4.choose_spec; exact ⟨q1, q2, fun a a1 a2 => q3 a a1 a2⟩⟩
    refine ⟨rfl, Rel_end ⟨⟨w, p, kn, od, ⟨by rw [cC _ _ _ (by decide) (by decide)]; exact x1, x2, (key (by omega) g0).1, hgI⟩, key (by omega) g0, BkH_c b1' (fun b => cC _ _ _ (by decide) (by decide)), by rw [cD _ _ _ (by decide) (by decide) (by omega)]; exact b2, fun t ht => ?_⟩, ?_, ⟨n' + 1, by omega, by rw [fup_eq]; omega, by rw [fup_eq]; omega, fun q => ?_, fun q hq => ?_⟩, fun s hs4 => ?_, Wp_z hW (fun k a b hk => cC k a b (by omega) (by omega))⟩ (loS_t (loS_up (by decide)) (loS_up (by decide)))⟩
    · obtain ⟨w', h⟩ := b3 t ht
      exact ⟨w', key (by omega) h⟩
    · rcases hk with ⟨k1, k2⟩ | ⟨k1, w2, p2, kn2, od2, k2, k3, k4, k5, k6, k7, k8, k9, k10⟩
      · exact Or.inl ⟨by rw [cC _ _ _ (by decide) (by decide)]; exact k1, by rw [cD _ _ _ (by decide) (by decide) (by omega)]; exact k2⟩
      · refine Or.inr ⟨by rw [cC _ _ _ (by decide) (by decide)]; exact k1, w2, p2, kn2, od2, k2, by rw [cC _ _ _ (by decide) (by decide)]; exact k3, by rw [cC _ _ _ (by decide) (by decide)]; exact k4, by rw [cC _ _ _ (by decide) (by decide)]; exact k5, k6, k7, by rw [cD _ _ _ (by decide) (by decide) (by omega)]; exact k8, key (by omega) k9, fun t ht => ?_⟩
        obtain ⟨w', h⟩ := k10 t ht
        exact ⟨w', key (by omega) h⟩
    · rw [fup_ne (by omega)]
      by_cases e : q = n'
      · subst e
        rw [fup_eq, fup_ne (by omega), fup_eq]
      · rw [fup_ne (by omega), fup_ne (by omega), fup_ne (by omega), fup_ne (by omega), fup_ne (by omega)]
        exact n4 q
    · rw [fup_ne (by omega)]
      by_cases e : q = n'
      · subst e
        rw [fup_eq]
        exact a0
      · rw [fup_ne (by omega)]
        exact n5 q (by omega)
    · obtain ⟨s1, s2, s3, s4, s5, s6⟩ := hs s hs4
      have e1 : ∀ k a b, k = 20 ∨ k = 21 → fup (fup M 7 0 n' c) 6 0 0 ((n' : Int) + 1) k a b = M k a b := fun k a b hk => cC k a b (by omega) (by omega)
      have e2 := fun (k a b : Nat) (hk : k = 33 ∨ k = 34 ∨ k = 35) => cD k a b (by omega) (by omega) (by omega)
      exact ⟨by rw [e1 20 _ _ (by omega)]; exact s1, by rw [e2 33 _ _ (by omega), e1 20 _ _ (by omega)]; exact s2, by rw [e1 20 _ _ (by omega)]; exact s3, by rw [e1 20 _ _ (by omega), e2 34 _ _ (by omega), e1 20 _ _ (by omega)]; exact s4, by rw [e2 34 _ _ (by omega)]; exact s5, fun q hq => by rw [e2 35 _ _ (by omega), e1 21 _ _ (by omega)]; exact s6 q hq⟩
/-- the tape is empty again -/
theorem Rel_tp {C D : fM} (h : Rel2 C D) : Rel2 (fup C 6 0 0 0) (fup D 22 0 5 0) := by
  obtain ⟨⟨w, p, kn, od, ⟨x1, x2, x3, x4⟩, g0, b1', b2, b3⟩, hk, ⟨n', n1, n2, n3, n4, n5⟩, hs, hW⟩ := h
  have key : ∀ {i A c0 w : Nat} {p : Int}, (A = 23 ∨ A = 28 ∨ A = 31 ∨ A = 32) → sg C i D A c0 w p → sg (fup C 6 0 0 0) i (fup D 22 0 5 0) A c0 w p := fun hA h => sg_c h (fun k b hk => fup_ne (by omega)) (fun b _ => fup_ne (by omega))
  have hgI : gI (fup C 6 0 0 0) := ⟨x4.choose, by obtain ⟨q1, q2, q3⟩ := x4.choose_spec; exact ⟨q1, q2, fun a a1 a2 => q3 a a1 a2⟩⟩
  refine ⟨⟨w, p, kn, od, ⟨by rw [fup_ne (by omega)]; exact x1, x2, (key (by omega) g0).1, hgI⟩, key (by omega) g0, BkH_c b1' (fun b => fup_ne (by omega)), by rw [fup_ne (by omega)]; exact b2, fun t ht => ?_⟩, ?_, ⟨0, by omega, by rw [fup_eq]; rfl, by rw [fup_eq]; rfl, fun q => by rw [fup_ne (by omega), fup_ne (by omega)]; exact n4 q, fun q hq => absurd hq (by omega)⟩, fun s hs4 => ?_, Wp_z hW (fun k a b hk => fup_ne (by omega))⟩
  · obtain ⟨w', h⟩ := b3 t ht
    exact ⟨w', key (by omega) h⟩
  · rcases hk with ⟨k1, k2⟩ | ⟨k1, w2, p2, kn2, od2, k2, k3, k4, k5, k6, k7, k8, k9, k10⟩
    · exact Or.inl ⟨by rw [fup_ne (by omega)]; exact k1, by rw [fup_ne (by omega)]; exact k2⟩
    · refine Or.inr ⟨by rw [fup_ne (by omega)]; exact k1, w2, p2, kn2, od2, k2, by rw [fup_ne (by omega)]; exact k3, by rw [fup_ne (by omega)]; exact k4, by rw [fup_ne (by omega)]; exact k5, k6, k7, by rw [fup_ne (by omega)]; exact k8, key (by omega) k9, fun t ht => ?_⟩
      obtain ⟨w', h⟩ := k10 t ht
      exact ⟨w', key (by omega) h⟩
  · obtain ⟨s1, s2, s3, s4, s5, s6⟩ := hs s hs4
    exact ⟨by rw [fup_ne (by omega)]; exact s1, by rw [fup_ne (by omega), fup_ne (by omega)]; exact s2, by rw [fup_ne (by omega)]; exact s3, by rw [fup_ne (by omega), fup_ne (by omega), fup_ne (by omega)]; exact s4, by rw [fup_ne (by omega)]; exact s5, fun q hq => by rw [fup_ne (by omega), fup_ne (by omega)]; exact s6 q hq⟩
theorem gI_rd {M N : fM} (h : gI M) (hS : rdS M N) : gI N := ⟨h.choose, by obtain ⟨q1, q2, q3⟩ := h.choose_spec; exact ⟨by rw [hS 8 _ _ (by omega) (by omega)]; exact q1, q2, fun a a1 a2 => by rw [hS 12 _ _ (by omega) (by omega)]; exact q3 a a1 a2⟩⟩
theorem rs_matrix {M M1 M2 : fM} {w : Nat} {p : Int} {kn od : Nat} {tp : Nat → Int} {ln : Nat} {z z' : Int} (hR : Rel M) (hc : core M M w p kn od) (hl7 : ln ≤ 70)
    (h1 : (∃ x, mtF tp ln p = some x ∧ z = -20 - (x : Int) ∧ ∃ M0, rdS M M0 ∧ M1 = fup M0 6 0 0 0) ∨ (mtF tp ln p = none ∧ z = ((tW tp ln p : Nat) : Int) ∧ ∃ M0, MxR M M0 tp ln p ∧ M1 = fup (fup (stk (fup M0 6 0 0 0) 0 19) 2 0 2 (M 2 0 2)) 1 0 1 0))
    (h2 : (∃ x, mtF tp ln p = some x ∧ z' = -20 - (x : Int) ∧ mS (fup M1 22 0 5 0) M2) ∨ (mtF tp ln p = none ∧ z' = ((tW tp ln p : Nat) : Int) ∧ mS (mMx M1 tp ln p) M2)) : z = z' ∧ Rel M2 := by
  rcases h1 with ⟨x, a0, rfl, M0, a1, rfl⟩ | ⟨a0, rfl, M0, a1, rfl⟩ <;> rcases h2 with ⟨y, b0, rfl, b1⟩ | ⟨b0, rfl, b1⟩
  · rw [a0] at b0
    cases b0
    have hz : Rel2 M0 M := Rel_z hR (zS_rd a1) (gI_rd hc.1.2.2.2 a1) (Wp_z hR.2.2.2.2 (fun k a b hk => a1 k a b (by omega) (by omega))) (mS_r M)
    have hi0 : hiS M M0 := hiS_rd a1
    have h3 := Rel_tp (Rel2_D hz hi0)
    have h4 : Rel2 (fup M0 6 0 0 0) (fup (fup M0 6 0 0 0) 22 0 5 0) := Rel2_D h3 (fun k a b hk => by
      by_cases e : k = 22 ∧ a = 0 ∧ b = 5
      · obtain ⟨rfl, rfl, rfl⟩ := e
        rw [fup_eq, fup_eq]
      · rw [fup_ne e, fup_ne e, fup_ne (by omega)])
    exact ⟨rfl, Rel_end (Rel_z h4 (zS_r _) h4.1.choose_spec.choose_spec.choose_spec.choose_spec.1.2.2.2 h4.2.2.2.2 b1) (loS_t (loS_up (by decide)) (loS_m b1))⟩
  · rw [a0] at b0; cases b0
  · rw [a0] at b0; cases b0
  · obtain ⟨r1, r2, r3, r4, r5, r6, r7, r8, r9⟩ := a1
    have hi0 : hiS M M0 := hiS_rd r1
    obtain ⟨s1, s2, s3, s4, s5, s6⟩ := hc.2.1.1
    have hL := sg_L hc.2.1
    have hp2 := hc.1.2.1.1
    have hkb := kb_b (lr tp ln (tS0 tp ln) (-1))
    have hsl := sk_le (tp := tp) (Nat.zero_le ln)
    have hs0 := kb_ne r4
    have hb1 : 1 ≤ (tR1 tp ln p).2.1 ∧ (tR1 tp ln p).2.1 ≤ 11 ∧ (tR1 tp ln p).2.2 ≤ ln ∧ ∀ i, i < (tR1 tp ln p).2.1 → 0 ≤ vlp tp ln (tS0 tp ln + 1) i ∧ vlp tp ln (tS0 tp ln + 1) i < p := rwp_b (tp := tp) (p := p) 10 (tS0 tp ln + 1) hs0 r5
    have ew : 2 * tW tp ln p - 1 = (tR1 tp ln p).2.1 := by
      show 2 * (((tR1 tp ln p).2.1 + 1) / 2) - 1 = _
      omega
    have hw6 : 1 ≤ tW tp ln p ∧ tW tp ln p ≤ 6 := by
      show 1 ≤ ((tR1 tp ln p).2.1 + 1) / 2 ∧ ((tR1 tp ln p).2.1 + 1) / 2 ≤ 6
      omega
    have hsd : ∀ i, i < tW tp ln p → isC tp ln (tR1 tp ln p).2.2 61 → 0 ≤ vlp tp ln ((tR1 tp ln p).2.2 + 1) i ∧ vlp tp ln ((tR1 tp ln p).2.2 + 1) i < p := fun i hi hc2 => by
      obtain ⟨t1, t2⟩ := r9 hc2
      obtain ⟨m, hm⟩ : ∃ m, tW tp ln p = m + 1 := ⟨tW tp ln p - 1, by omega⟩
      have h3 : (rwp tp ln p (m + 1) ((tR1 tp ln p).2.2 + 1)).1 = none := by rw [← hm]; exact t1
      have h4 : (rwp tp ln p (m + 1) ((tR1 tp ln p).2.2 + 1)).2.1 = m + 1 := by rw [← hm]; exact t2
      exact (rwp_b (tp := tp) (p := p) m ((tR1 tp ln p).2.2 + 1) hc2.1 h3).2.2.2 i (by omega)
    -- the class's places
    have c2 : ∀ k b, ((k = 2 ∧ b < 2) ∨ (k = 3 ∧ b < 11) ∨ (k = 4 ∧ b < 6)) → fup (fup (stk (fup M0 6 0 0 0) 0 19) 2 0 2 (M 2 0 2)) 1 0 1 0 k 0 b = M0 k 19 b := fun k b hk => by
      rw [fup_ne (by omega), fup_ne (by omega)]
      unfold stk
      rw [if_pos ⟨rfl, by omega⟩, fup_ne (by omega)]
    have cd : fup (fup (stk (fup M0 6 0 0 0) 0 19) 2 0 2 (M 2 0 2)) 1 0 1 0 2 0 2 = M 2 0 2 := by
      rw [fup_ne (by omega), fup_eq]
    have cN : ∀ k a b, ¬ ((k = 2 ∨ k = 3 ∨ k = 4) ∧ (a = 0 ∨ a = 19)) → ¬ (k = 1 ∧ a = 0 ∧ b = 1) → k ≠ 6 → fup (fup (stk (fup M0 6 0 0 0) 0 19) 2 0 2 (M 2 0 2)) 1 0 1 0 k a b = M k a b := fun k a b q1 q2 q3 => by
      rw [fup_ne q2, fup_ne (by omega), stk_off (by omega), fup_ne (by omega)]
      exact r1 k a b (by omega) (by omega)
    have hh : hiS M (fup (fup (stk (fup M0 6 0 0 0) 0 19) 2 0 2 (M 2 0 2)) 1 0 1 0) := fun k a b hk => cN k a b (by omega) (by omega) (by omega)
    have hss : sOk (fup (fup (stk (fup M0 6 0 0 0) 0 19) 2 0 2 (M 2 0 2)) 1 0 1 0) 0 (tW tp ln p) p := by
      refine ⟨by rw [c2 2 0 (by omega)]; exact r2, hw6, by rw [c2 2 1 (by omega), r3]; omega, fun q hq => ?_, fun q hq => ?_, by rw [cd]; exact s6⟩
      · rw [c2 3 q (by omega), r7 q (by omega)]; exact hb1.2.2.2 q (by omega)
      · rw [c2 4 q (by omega), r8 q hq]
        split
        · rename_i hc2; exact hsd q hq hc2
        · omega
    have d : ∀ b, mMx (fup (fup (stk (fup M0 6 0 0 0) 0 19) 2 0 2 (M 2 0 2)) 1 0 1 0) tp ln p 23 0 b = if b = 0 then ((tW tp ln p : Nat) : Int) else if b = 1 then kb (lr tp ln (tS0 tp ln) (-1)) else if 4 ≤ b ∧ b < 15 then (if b - 4 < (tR1 tp ln p).2.1 then vlp tp ln (tS0 tp ln + 1) (b - 4) else 0) else if 15 ≤ b ∧ b < 21 then (if isC tp ln (tR1 tp ln p).2.2 61 ∧ b - 15 < tW tp ln p then vlp tp ln ((tR1 tp ln p).2.2 + 1) (b - 15) else 0) else M 23 0 b := fun b => by
      unfold mMx
      rw [if_neg (by omega), if_pos ⟨rfl, rfl⟩, hh 23 0 b (by decide)]
    have hs : sg (fup (fup (stk (fup M0 6 0 0 0) 0 19) 2 0 2 (M 2 0 2)) 1 0 1 0) 0 (mMx (fup (fup (stk (fup M0 6 0 0 0) 0 19) 2 0 2 (M 2 0 2)) 1 0 1 0) tp ln p) 23 0 (tW tp ln p) p := by
      refine sg_nw hss ?_ ?_ ?_ ?_ (fun q hq => ?_) (fun q hq => ?_) (fun b hb => ?_)
      · rw [d, if_pos rfl]
      · rw [d, if_neg (by omega), if_pos rfl, c2 2 1 (by omega), r3]
      · rw [d, if_neg (by omega), if_neg (by omega), if_neg (by omega), if_neg (by omega)]; exact (nOk_of hc.1.2.1 hc.2.1).2.1
      · rw [d, if_neg (by omega), if_neg (by omega), if_neg (by omega), if_neg (by omega), cd]; exact hL.2.2.2
      · rw [d, if_neg (by omega), if_neg (by omega), if_pos (show 4 ≤ 4 + q ∧ 4 + q < 15 by omega), show 4 + q - 4 = q by omega, if_pos (by omega), c2 3 q (by omega), r7 q (by omega)]
      · rw [d, if_neg (by omega), if_neg (by omega), if_neg (show ¬ (4 ≤ 15 + q ∧ 15 + q < 15) by omega), if_pos (show 15 ≤ 15 + q ∧ 15 + q < 21 by omega), show 15 + q - 15 = q by omega, c2 4 q (by omega), r8 q hq]
        by_cases e : isC tp ln (tR1 tp ln p).2.2 61
        · rw [if_pos ⟨e, hq⟩, if_pos e]
        · rw [if_neg (fun h => e h.1), if_neg e]
      · rw [d]
        split
        · omega
        · split
          · exact r4
          · split
            · split
              · rename_i e; exact (hb1.2.2.2 _ e).1
              · exact Int.le_refl 0
            · split
              · split
                · rename_i e; exact (hsd _ e.2 e.1).1
                · exact Int.le_refl 0
              · exact sg_nn hc.2.1 b hb
    obtain ⟨⟨w0, p0, kn0, od0, -⟩, hk, ⟨n', n1, n2, n3, n4, n5⟩, hsh, hW⟩ := hR
    have hgI : gI (fup (fup (stk (fup M0 6 0 0 0) 0 19) 2 0 2 (M 2 0 2)) 1 0 1 0) := ⟨hc.1.2.2.2.choose, by obtain ⟨q1, q2, q3⟩ := hc.1.2.2.2.choose_spec; exact ⟨by rw [cN 8 0 _ (by omega) (by omega) (by decide)]; exact q1, q2, fun a a1 a2 => by rw [cN 12 0 _ (by omega) (by omega) (by decide)]; exact q3 a a1 a2⟩⟩
    have hWp : WpOk (fup (fup (stk (fup M0 6 0 0 0) 0 19) 2 0 2 (M 2 0 2)) 1 0 1 0) := Wp_z hW (fun k a b hk => cN k a b (by omega) (by omega) (by omega))
    have dN : ∀ k a b, 22 ≤ k → k ≠ 23 → ¬ (k = 22 ∧ (b = 5 ∨ b = 9)) → mMx (fup (fup (stk (fup M0 6 0 0 0) 0 19) 2 0 2 (M 2 0 2)) 1 0 1 0) tp ln p k a b = M k a b := fun k a b q0 q1 q2 => by
      unfold mMx
      rw [if_neg (by omega), if_neg (by omega)]
      exact hh k a b q0
    have key : ∀ {i A c0 w : Nat} {p' : Int}, 9 ≤ i → i < 18 → (A = 31 ∨ A = 32) → sg M i M A c0 w p' → sg (fup (fup (stk (fup M0 6 0 0 0) 0 19) 2 0 2 (M 2 0 2)) 1 0 1 0) i (mMx (fup (fup (stk (fup M0 6 0 0 0) 0 19) 2 0 2 (M 2 0 2)) 1 0 1 0) tp ln p) A c0 w p' := fun hi hi2 hA h => sg_c h (fun k b hk => cN k _ b (by omega) (by omega) (by omega)) (fun b _ => dN _ _ _ (by omega) (by omega) (by omega))
    have h4 : Rel2 (fup (fup (stk (fup M0 6 0 0 0) 0 19) 2 0 2 (M 2 0 2)) 1 0 1 0) (mMx (fup (fup (stk (fup M0 6 0 0 0) 0 19) 2 0 2 (M 2 0 2)) 1 0 1 0) tp ln p) := by
      refine ⟨⟨tW tp ln p, p, 0, od, ⟨by rw [cN _ _ _ (by omega) (by omega) (by decide)]; exact hc.1.1, hc.1.2.1, hss, hgI⟩, hs, ⟨by rw [fup_eq]; rfl, by rw [cN _ _ _ (by omega) (by omega) (by decide)]; exact hc.2.2.1.2.1, by omega, hc.2.2.1.2.2.2⟩, ?_, fun t ht => absurd ht (by omega)⟩, ?_, ⟨0, by omega, ?_, ?_, fun q => ?_, fun q hq => absurd hq (by omega)⟩, fun s hs4 => ?_, hWp⟩
      · unfold mMx; rw [if_pos ⟨rfl, rfl, Or.inr rfl⟩]; rfl
      · rcases hk with ⟨k1, k2⟩ | ⟨k1, w2, p2, kn2, od2, k2, k3, k4, k5, k6, k7, k8, k9, k10⟩
        · exact Or.inl ⟨by rw [cN _ _ _ (by omega) (by omega) (by decide)]; exact k1, by rw [dN _ _ _ (by decide) (by decide) (by omega)]; exact k2⟩
        · refine Or.inr ⟨by rw [cN _ _ _ (by omega) (by omega) (by decide)]; exact k1, w2, p2, kn2, od2, k2, by rw [cN _ _ _ (by omega) (by omega) (by decide)]; exact k3, by rw [cN _ _ _ (by omega) (by omega) (by decide)]; exact k4, by rw [cN _ _ _ (by omega) (by omega) (by decide)]; exact k5, k6, k7, by rw [dN _ _ _ (by decide) (by decide) (by omega)]; exact k8, key (by decide) (by decide) (by omega) k9, fun t ht => ?_⟩
          obtain ⟨w', h⟩ := k10 t ht
          exact ⟨w', key (by omega) (by omega) (by omega) h⟩
      · rw [fup_ne (by omega), fup_ne (by omega), stk_off (by omega), fup_eq]; rfl
      · unfold mMx; rw [if_pos ⟨rfl, rfl, Or.inl rfl⟩]; rfl
      · rw [dN _ _ _ (by decide) (by decide) (by omega), cN _ _ _ (by omega) (by omega) (by decide)]; exact n4 q
      · obtain ⟨t1, t2, t3, t4, t5, t6⟩ := hsh s hs4
        have e20 : ∀ b, fup (fup (stk (fup M0 6 0 0 0) 0 19) 2 0 2 (M 2 0 2)) 1 0 1 0 20 s b = M 20 s b := fun b => cN _ _ _ (by omega) (by omega) (by decide)
        have e21 : ∀ b, fup (fup (stk (fup M0 6 0 0 0) 0 19) 2 0 2 (M 2 0 2)) 1 0 1 0 21 s b = M 21 s b := fun b => cN _ _ _ (by omega) (by omega) (by decide)
        exact ⟨by rw [e20]; exact t1, by rw [dN 33 _ _ (by decide) (by decide) (by omega), e20]; exact t2, by rw [e20]; exact t3, by rw [e20, dN 34 _ _ (by decide) (by decide) (by omega), e20]; exact t4, by rw [dN 34 _ _ (by decide) (by decide) (by omega)]; exact t5, fun q hq => by rw [dN 35 _ _ (by decide) (by decide) (by omega), e21]; exact t6 q hq⟩
    exact ⟨rfl, Rel_end (Rel_z h4 (zS_r _) hgI hWp b1) (loS_t loS_mx (loS_m b1))⟩
theorem rs_image {M M1 M2 : fM} {w : Nat} {p : Int} {kn od : Nat} {z z' : Int} (hR : Rel M) (hc : core M M w p kn od) (h1 : z = 1 ∧ M1 = fup (bkT M 1 0 9) 0 0 2 1) (h2 : z' = 1 ∧ M2 = fup (imS M1 21 168) 22 0 14 (M1 22 0 9)) : z = z' ∧ Rel M2 := by
  obtain ⟨rfl, rfl⟩ := h1
  obtain ⟨rfl, rfl⟩ := h2
  have hh : hiS M (fup (bkT M 1 0 9) 0 0 2 1) := hiS_t hiS_bt (hiS_up (by decide))
  have cN : ∀ k a b, k < 22 → ¬ (k = 0 ∧ b = 2) → ¬ (k = 1 ∧ a = 1) → ¬ ((k = 2 ∨ k = 3 ∨ k = 4) ∧ 9 ≤ a ∧ a < 18) → fup (bkT M 1 0 9) 0 0 2 1 k a b = M k a b := fun k a b q0 q1 q2 q3 => by
    rw [fup_ne (by omega)]
    unfold bkT
    rw [if_neg (by omega), if_neg (by omega)]
  have cS : ∀ k a b, 9 ≤ a → a < 18 → ((k = 2 ∧ b < 3) ∨ (k = 3 ∧ b < 11) ∨ (k = 4 ∧ b < 6)) → fup (bkT M 1 0 9) 0 0 2 1 k a b = M k (a - 9) b := fun k a b q1 q2 q3 => by
    rw [fup_ne (by omega)]
    unfold bkT
    rw [if_neg (by omega), if_pos (by omega)]
    congr 1
    omega
  have cB : ∀ b, (b = 0 ∨ b = 1 ∨ b = 3) → fup (bkT M 1 0 9) 0 0 2 1 1 1 b = M 1 0 b := fun b hb => by
    rw [fup_ne (by omega)]
    unfold bkT
    rw [if_pos ⟨rfl, rfl, hb⟩]
  have dN : ∀ k a b, 22 ≤ k → k ≠ 31 → k ≠ 32 → ¬ (k = 22 ∧ b = 14) → fup (imS (fup (bkT M 1 0 9) 0 0 2 1) 21 168) 22 0 14 (fup (bkT M 1 0 9) 0 0 2 1 22 0 9) k a b = M k a b := fun k a b q0 q1 q2 q3 => by
    rw [fup_ne (by omega)]
    unfold imS
    rw [if_neg (by omega), if_neg (by omega)]
    exact hh k a b q0
  have d31 : ∀ b, b < 21 → fup (imS (fup (bkT M 1 0 9) 0 0 2 1) 21 168) 22 0 14 (fup (bkT M 1 0 9) 0 0 2 1 22 0 9) 31 0 b = M 23 0 b := fun b hb => by
    rw [fup_ne (by omega)]
    unfold imS
    rw [if_pos ⟨rfl, rfl, hb⟩]
    exact hh _ _ _ (by decide)
  have d32 : ∀ b, b < 168 → fup (imS (fup (bkT M 1 0 9) 0 0 2 1) 21 168) 22 0 14 (fup (bkT M 1 0 9) 0 0 2 1 22 0 9) 32 0 b = M 28 0 b := fun b hb => by
    rw [fup_ne (by omega)]
    unfold imS
    rw [if_neg (by omega), if_pos ⟨rfl, rfl, hb⟩]
    exact hh _ _ _ (by decide)
  obtain ⟨-, hk, ⟨n, n1, n2, n3, n4, n5⟩, hs, hW⟩ := hR
  have g0 := hc.2.1
  have key : ∀ {i A c0 w : Nat} {p : Int}, i < 9 → (A = 23 ∨ A = 28) → sg M i M A c0 w p → sg (fup (bkT M 1 0 9) 0 0 2 1) i (fup (imS (fup (bkT M 1 0 9) 0 0 2 1) 21 168) 22 0 14 (fup (bkT M 1 0 9) 0 0 2 1 22 0 9)) A c0 w p := fun hi hA h => sg_c h (fun k b hk => cN k _ b (by omega) (by omega) (by omega) (by omega)) (fun b _ => dN _ _ _ (by omega) (by omega) (by omega) (by omega))
  have hgI : gI (fup (bkT M 1 0 9) 0 0 2 1) := ⟨hc.1.2.2.2.choose, by obtain ⟨q1, q2, q3⟩ := hc.1.2.2.2.choose_spec; exact ⟨by rw [cN 8 0 _ (by decide) (by omega) (by omega) (by omega)]; exact q1, q2, fun a a1 a2 => by rw [cN 12 0 _ (by decide) (by omega) (by omega) (by omega)]; exact q3 a a1 a2⟩⟩
  have hb := hc.2.2.1
  have hb8 := hb.2.2.1
  refine ⟨rfl, Rel_end ⟨⟨w, p, kn, od, ⟨by rw [cN _ _ _ (by decide) (by omega) (by omega) (by omega)]; exact hc.1.1, hc.1.2.1, (key (by decide) (by omega) g0).1, hgI⟩, key (by decide) (by omega) g0, BkH_c hb (fun b => cN _ _ _ (by decide) (by omega) (by omega) (by omega)), by rw [dN _ _ _ (by decide) (by decide) (by decide) (by omega)]; exact hc.2.2.2.1, fun t ht => ?_⟩, Or.inr ⟨fup_eq, w, p, kn, od, hc.1.2.1, by rw [cB 0 (by omega)]; exact hc.1.1, by rw [cB 1 (by omega)]; exact hb.1, by rw [cB 3 (by omega)]; exact hb.2.1, hb.2.2.1, hb.2.2.2, by rw [fup_eq, hh _ _ _ (by decide)]; exact hc.2.2.2.1, sg_c g0 (fun k b hk => cS k 9 b (by decide) (by decide) hk) (fun b hb => by rw [Nat.zero_add]; exact d31 b hb), fun t ht => ?_⟩, ⟨n, n1, by rw [cN _ _ _ (by decide) (by omega) (by omega) (by omega)]; exact n2, by rw [dN _ _ _ (by decide) (by decide) (by decide) (by omega)]; exact n3, fun q => by rw [dN _ _ _ (by decide) (by decide) (by decide) (by omega), cN _ _ _ (by decide) (by omega) (by omega) (by omega)]; exact n4 q, fun q hq => by rw [cN _ _ _ (by decide) (by omega) (by omega) (by omega)]; exact n5 q hq⟩, fun s hs4 => ?_, Wp_z hW (fun k a b hk => cN k a b (by omega) (by omega) (by omega) (by omega))⟩ (loS_t loS_im (loS_up (by decide)))⟩
  · obtain ⟨w', h⟩ := hc.2.2.2.2 t ht
    exact ⟨w', key (by omega) (by omega) h⟩
  · obtain ⟨w', h⟩ := hc.2.2.2.2 t ht
    exact ⟨w', sg_c h (fun k b hk => by rw [cS k _ b (by omega) (by omega) hk]; congr 1; omega) (fun b hb => d32 _ (by omega))⟩
  · obtain ⟨t1, t2, t3, t4, t5, t6⟩ := hs s hs4
    have e20 : ∀ b, fup (bkT M 1 0 9) 0 0 2 1 20 s b = M 20 s b := fun b => cN _ _ _ (by decide) (by omega) (by omega) (by omega)
    have e21 : ∀ b, fup (bkT M 1 0 9) 0 0 2 1 21 s b = M 21 s b := fun b => cN _ _ _ (by decide) (by omega) (by omega) (by omega)
    exact ⟨by rw [e20]; exact t1, by rw [dN 33 _ _ (by decide) (by decide) (by decide) (by omega), e20]; exact t2, by rw [e20]; exact t3, by rw [e20, dN 34 _ _ (by decide) (by decide) (by decide) (by omega), e20]; exact t4, by rw [dN 34 _ _ (by decide) (by decide) (by decide) (by omega)]; exact t5, fun q hq => by rw [dN 35 _ _ (by decide) (by decide) (by decide) (by omega), e21]; exact t6 q hq⟩
theorem rs_restore {M M1 M2 : fM} {z z' : Int} (hR : Rel M) (h1 : (M 0 0 2 = 0 ∧ z = -4 ∧ M1 = M) ∨ (M 0 0 2 ≠ 0 ∧ z = 1 ∧ M1 = bkT M 0 1 9)) (h2 : (M1 22 0 14 < 0 ∧ z' = -4 ∧ M2 = M1) ∨ (0 ≤ M1 22 0 14 ∧ z' = 1 ∧ M2 = fup (reS M1 21 168) 22 0 9 (M1 22 0 14))) : z = z' ∧ Rel M2 := by
  have hR0 := hR
  obtain ⟨⟨w0, p0, kn0, od0, hc⟩, hk, ⟨n, n1, n2, n3, n4, n5⟩, hs, hW⟩ := hR
  rcases h1 with ⟨a0, rfl, rfl⟩ | ⟨a0, rfl, rfl⟩
  · rcases h2 with ⟨b0, rfl, rfl⟩ | ⟨b0, rfl, rfl⟩
    · exact ⟨rfl, hR0⟩
    · rcases hk with ⟨k1, k2⟩ | ⟨k1, k2⟩
      · omega
      · omega
  · have hh : hiS M (bkT M 0 1 9) := hiS_bt
    rw [hh 22 0 14 (by decide)] at h2
    rcases hk with ⟨k1, k2⟩ | ⟨k1, w2, p2, kn2, od2, k2, k3, k4, k5, k6, k7, k8, k9, k10⟩
    · exact absurd k1 a0
    · rcases h2 with ⟨b0, rfl, rfl⟩ | ⟨b0, rfl, rfl⟩
      · omega
      · have cN : ∀ k a b, k < 22 → ¬ (k = 1 ∧ a = 0 ∧ (b = 0 ∨ b = 1 ∨ b = 3)) → ¬ ((k = 2 ∨ k = 3 ∨ k = 4) ∧ a < 9) → bkT M 0 1 9 k a b = M k a b := fun k a b q0 q2 q3 => by
          unfold bkT
          rw [if_neg (by omega), if_neg (by omega)]
        have cS : ∀ k a b, a < 9 → ((k = 2 ∧ b < 3) ∨ (k = 3 ∧ b < 11) ∨ (k = 4 ∧ b < 6)) → bkT M 0 1 9 k a b = M k (9 + a) b := fun k a b q2 q3 => by
          unfold bkT
          rw [if_neg (by omega), if_pos (by omega)]
          congr 1
        have cB : ∀ b, (b = 0 ∨ b = 1 ∨ b = 3) → bkT M 0 1 9 1 0 b = M 1 1 b := fun b hb => by
          unfold bkT
          rw [if_pos ⟨rfl, rfl, hb⟩]
        have dN : ∀ k a b, 22 ≤ k → k ≠ 23 → k ≠ 28 → ¬ (k = 22 ∧ b = 9) → fup (reS (bkT M 0 1 9) 21 168) 22 0 9 (M 22 0 14) k a b = M k a b := fun k a b q0 q1 q2 q3 => by
          rw [fup_ne (by omega)]
          unfold reS
          rw [if_neg (by omega), if_neg (by omega)]
          exact hh k a b q0
        have d23 : ∀ b, b < 21 → fup (reS (bkT M 0 1 9) 21 168) 22 0 9 (M 22 0 14) 23 0 b = M 31 0 b := fun b hb => by
          rw [fup_ne (by omega)]
          unfold reS
          rw [if_pos ⟨rfl, rfl, hb⟩]
          exact hh _ _ _ (by decide)
        have d28 : ∀ b, b < 168 → fup (reS (bkT M 0 1 9) 21 168) 22 0 9 (M 22 0 14) 28 0 b = M 32 0 b := fun b hb => by
          rw [fup_ne (by omega)]
          unfold reS
          rw [if_neg (by omega), if_pos ⟨rfl, rfl, hb⟩]
          exact hh _ _ _ (by decide)
        refine ⟨rfl, ?_⟩
        refine Rel_end (Rel_mod (w := w2) (p := p2) (kn := kn2) (od := od2) hR0 k2 (fun k a b q1 q2 q3 => cN k a b q1 (by omega) q3) (fun k a b q1 q2 q3 q4 => dN k a b q1 q2 q3 q4) (by rw [cB 0 (by omega)]; exact k3) (sg_c k9 (fun k b hk => cS k 0 b (by decide) hk) (fun b hb => by rw [Nat.zero_add]; exact d23 b hb)) ⟨⟨by rw [cB 1 (by omega)]; exact k4, by rw [cB 3 (by omega)]; exact k5, k6, k7⟩, by rw [fup_eq]; exact k8, fun t ht => ?_⟩) (loS_t loS_re (loS_up (by decide)))
        obtain ⟨w', h⟩ := k10 t ht
        exact ⟨w', sg_c h (fun k b hk => by rw [cS k _ b (by omega) hk]; congr 1; omega) (fun b hb => d28 _ (by omega))⟩
