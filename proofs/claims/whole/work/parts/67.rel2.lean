/-! ===== calls that change the setting ===== -/
theorem sg_D {C D D' : fM} {i A c0 w : Nat} {p : Int} (h : sg C i D A c0 w p) (hA : 22 ≤ A) (e : hiS D D') : sg C i D' A c0 w p := sg_c h (fun _ _ _ => rfl) (fun b _ => e _ _ _ hA)
theorem core_D {C D D' : fM} {w : Nat} {p : Int} {kn od : Nat} (h : core C D w p kn od) (e : hiS D D') : core C D' w p kn od := ⟨h.1, sg_D h.2.1 (by decide) e, h.2.2.1, by rw [e _ _ _ (by decide)]; exact h.2.2.2.1, fun t ht => by obtain ⟨w', h⟩ := h.2.2.2.2 t ht; exact ⟨w', sg_D h (by decide) e⟩⟩
theorem Rel2_D {C D D' : fM} (h : Rel2 C D) (e : hiS D D') : Rel2 C D' := by
  obtain ⟨⟨w, p, kn, od, hc⟩, hk, ⟨n, n1, n2, n3, n4, n5⟩, hs, hW⟩ := h
  refine ⟨⟨w, p, kn, od, core_D hc e⟩, ?_, ⟨n, n1, n2, by rw [e _ _ _ (by decide)]; exact n3, fun q => by rw [e _ _ _ (by decide)]; exact n4 q, n5⟩, fun s hs4 => ?_, hW⟩
  · rcases hk with ⟨k1, k2⟩ | ⟨k1, w2, p2, kn2, od2, k2, k3, k4, k5, k6, k7, k8, k9, k10⟩
    · exact Or.inl ⟨k1, by rw [e _ _ _ (by decide)]; exact k2⟩
    · exact Or.inr ⟨k1, w2, p2, kn2, od2, k2, k3, k4, k5, k6, k7, by rw [e _ _ _ (by decide)]; exact k8, sg_D k9 (by decide) e, fun t ht => by obtain ⟨w', h⟩ := k10 t ht; exact ⟨w', sg_D h (by decide) e⟩⟩
  · obtain ⟨s1, s2, s3, s4, s5, s6⟩ := hs s hs4
    exact ⟨s1, by rw [e _ _ _ (by decide)]; exact s2, s3, by rw [e _ _ _ (by decide)]; exact s4, by rw [e _ _ _ (by decide)]; exact s5, fun q hq => by rw [e _ _ _ (by decide)]; exact s6 q hq⟩
theorem rs_mod2 {M N M1 M2 : fM} {w w' : Nat} {p : Int} {kn od : Nat} (hR : Rel2 M N) (hc : core M N w p kn od) (hB : ∀ k a b, k < 22 → ¬ ((k = 2 ∨ k = 3 ∨ k = 4) ∧ a = 0) → M1 k a b = bkR M kn od k a b) (hN : ∀ k a b, 22 ≤ k → k ≠ 23 → M2 k a b = nt N kn k a b) (hs : sg M1 0 M2 23 0 w' p) : Rel2 M1 M2 ∧ core M1 M2 w' p (dkn kn) (dod kn od) := by
  have h8 := hc.2.2.1.2.2.1
  have hp : pst M1 M2 p (dkn kn) (dod kn od) := pst_nt hc.2.1 hc.2.2 (hB _ _ _ (by decide) (by omega)) (hB _ _ _ (by decide) (by omega)) (fun k a b hk h1 h2 => hB k a b (by omega) (by omega)) (by rw [hN _ _ _ (by decide) (by decide), nt_u h8]) (fun c hc2 => hN _ _ _ (by decide) (by decide))
  have h1 : M1 1 0 0 = p := by rw [hB _ _ _ (by decide) (by omega), bkR_p]; exact hc.1.1
  have hC : frC M M1 := fun k a b q1 q2 q3 => by rw [hB k a b q1 (by omega)]; exact frC_bk k a b q1 q2 q3
  refine ⟨Rel_mod (w := w') (p := p) (kn := dkn kn) (od := dod kn od) hR hc.1.2.1 hC (fun k a b q1 q2 q3 q4 => ?_) h1 hs hp, ⟨h1, hc.1.2.1, hs.1, hc.1.2.2.2.choose, ?_⟩, hs, hp⟩
  · rw [hN k a b q1 q2, nt_ne q3 (by omega)]
  · obtain ⟨q1, q2, q3⟩ := hc.1.2.2.2.choose_spec
    exact ⟨by rw [hC _ _ _ (by decide) (by omega) (by omega)]; exact q1, q2, fun a a1 a2 => by rw [hC _ _ _ (by decide) (by omega) (by omega)]; exact q3 a a1 a2⟩
theorem rs_mod {M M1 M2 : fM} {w w' : Nat} {p : Int} {kn od : Nat} (hR : Rel M) (hc : core M M w p kn od) (hB : ∀ k a b, k < 22 → ¬ ((k = 2 ∨ k = 3 ∨ k = 4) ∧ a = 0) → M1 k a b = bkR M kn od k a b) (hh : hiS M M1) (hN : ∀ k a b, 22 ≤ k → k ≠ 23 → M2 k a b = nt M1 kn k a b) (hs : sg M1 0 M2 23 0 w' p) : Rel2 M1 M2 := (rs_mod2 (Rel2_D hR hh) (core_D hc hh) hB hN hs).1
theorem bkR_at {M : fM} {kn od k b : Nat} (hk : k = 2 ∨ k = 3 ∨ k = 4) : bkR M kn od k 0 b = M k 0 b := bkR_0 (by omega)
theorem nt_23 {M M1 : fM} {kn b : Nat} (hh : hiS M M1) : nt M1 kn 23 0 b = M 23 0 b := (nt_ne (by decide) (by omega)).trans (hh _ _ _ (by decide))
theorem sg_nn {M : fM} {w : Nat} {p : Int} (h : sg M 0 M 23 0 w p) : ∀ b, b < 21 → 0 ≤ M 23 0 b := fun b hb => by
  have := h.2.2.2.2.2.2.2 b hb
  rw [Nat.zero_add] at this
  exact this
theorem rs_change {M M1 M2 : fM} {w : Nat} {p : Int} {kn od : Nat} {x v z z' : Int} (hR : Rel M) (hc : core M M w p kn od)
    (h1 : (¬ ((0 ≤ x ∧ x < ((2 * w - 1 : Nat) : Int)) ∧ (0 ≤ v ∧ v < p)) ∧ z = -1 ∧ M1 = M) ∨ (((0 ≤ x ∧ x < ((2 * w - 1 : Nat) : Int)) ∧ (0 ≤ v ∧ v < p)) ∧ ((v = M 3 0 x.toNat ∧ z = -2 ∧ M1 = M) ∨ (v ≠ M 3 0 x.toNat ∧ z = M 3 0 x.toNat ∧ M1 = fup (bkR M kn od) 3 0 x.toNat v))))
    (h2 : (¬ ((0 ≤ x ∧ x < ((2 * w - 1 : Nat) : Int)) ∧ (0 ≤ v ∧ v < p)) ∧ z' = -1 ∧ M2 = M1) ∨ (((0 ≤ x ∧ x < ((2 * w - 1 : Nat) : Int)) ∧ (0 ≤ v ∧ v < p)) ∧ ((v = lL M1 x.toNat ∧ z' = -2 ∧ M2 = M1) ∨ (v ≠ lL M1 x.toNat ∧ z' = lL M1 x.toNat ∧ M2 = fup (nt M1 kn) 23 0 (4 + x.toNat) v)))) : z = z' ∧ Rel M2 := by
  have hL := sg_L hc.2.1
  rcases h1 with ⟨a0, rfl, rfl⟩ | ⟨a0, ⟨a1, rfl, rfl⟩ | ⟨a1, rfl, rfl⟩⟩ <;> rcases h2 with ⟨b0, rfl, rfl⟩ | ⟨b0, b1⟩
  · exact ⟨rfl, hR⟩
  · exact absurd b0 a0
  · exact absurd a0 b0
  · rcases b1 with ⟨b1, rfl, rfl⟩ | ⟨b1, rfl, rfl⟩
    · exact ⟨rfl, hR⟩
    · exact absurd (a1.trans (hL.1 _ (by omega)).symm) b1
  · exact absurd a0 b0
  · have hh : hiS M (fup (bkR M kn od) 3 0 x.toNat v) := hiS_t hiS_bk (hiS_up (by decide))
    have e : lL (fup (bkR M kn od) 3 0 x.toNat v) x.toNat = M 3 0 x.toNat := (hh 23 0 _ (by decide)).trans (hL.1 _ (by omega))
    rw [e] at b1
    rcases b1 with ⟨b1, rfl, rfl⟩ | ⟨b1, rfl, rfl⟩
    · exact absurd b1 a1
    · refine ⟨rfl, Rel_end (rs_mod (M1 := fup (bkR M kn od) 3 0 x.toNat v) (M2 := fup (nt (fup (bkR M kn od) 3 0 x.toNat v) kn) 23 0 (4 + x.toNat) v) (w' := w) hR hc (fun k a b q1 q2 => fup_ne (by omega)) hh (fun k a b q1 q2 => fup_ne (by omega)) ?_) (loS_t loS_nt (loS_up (by decide)))⟩
      obtain ⟨s1, s2, s3, s4, s5, s6⟩ := hc.2.1.1
      have hg := hc.2.1
      refine sg_now hg ⟨by rw [fup_ne (by omega), bkR_at (by omega)]; exact s1, s2, by rw [fup_ne (by omega), bkR_at (by omega)]; exact s3, fun q hq => ?_, fun q hq => by rw [fup_ne (by omega), bkR_at (by omega)]; exact s5 q hq, by rw [fup_ne (by omega), bkR_at (by omega)]; exact s6⟩ ?_ ?_ ?_ ?_ (fun q hq => ?_) (fun q hq => ?_) (fun b hb => ?_)
      · by_cases e : q = x.toNat
        · rw [e, fup_eq]; exact a0.2
        · rw [fup_ne (by omega), bkR_at (by omega)]; exact s4 q hq
      · rw [fup_ne (by omega), nt_23 hh]; exact (nOk_of hc.1.2.1 hg).1
      · rw [fup_ne (by omega), nt_23 hh, fup_ne (by omega), bkR_at (by omega)]; exact hL.2.2.1
      · rw [fup_ne (by omega), nt_23 hh]; exact (nOk_of hc.1.2.1 hg).2.1
      · rw [fup_ne (by omega), nt_23 hh, fup_ne (by omega), bkR_at (by omega)]; exact hL.2.2.2
      · by_cases e : q = x.toNat
        · rw [e, fup_eq, fup_eq]
        · rw [fup_ne (by omega), nt_23 hh, fup_ne (by omega), bkR_at (by omega)]; exact hL.1 q hq
      · rw [fup_ne (by omega), nt_23 hh, fup_ne (by omega), bkR_at (by omega)]; exact hL.2.1 q hq
      · by_cases e : b = 4 + x.toNat
        · rw [e, fup_eq]; exact a0.2.1
        · rw [fup_ne (by omega), nt_23 hh]; exact sg_nn hg b hb
theorem rs_put {M M1 M2 : fM} {w : Nat} {p : Int} {kn od : Nat} {x v z z' : Int} (hR : Rel M) (hc : core M M w p kn od)
    (h1 : (¬ ((0 ≤ x ∧ x < (w : Int)) ∧ (0 ≤ v ∧ v < p)) ∧ z = -1 ∧ M1 = M) ∨ (((0 ≤ x ∧ x < (w : Int)) ∧ (0 ≤ v ∧ v < p)) ∧ ((v = M 4 0 x.toNat ∧ z = -2 ∧ M1 = M) ∨ (v ≠ M 4 0 x.toNat ∧ z = M 4 0 x.toNat ∧ M1 = fup (bkR M kn od) 4 0 x.toNat v))))
    (h2 : (¬ ((0 ≤ x ∧ x < (w : Int)) ∧ (0 ≤ v ∧ v < p)) ∧ z' = -1 ∧ M2 = M1) ∨ (((0 ≤ x ∧ x < (w : Int)) ∧ (0 ≤ v ∧ v < p)) ∧ ((v = lS M1 x.toNat ∧ z' = -2 ∧ M2 = M1) ∨ (v ≠ lS M1 x.toNat ∧ z' = lS M1 x.toNat ∧ M2 = fup (nt M1 kn) 23 0 (15 + x.toNat) v)))) : z = z' ∧ Rel M2 := by
  have hL := sg_L hc.2.1
  rcases h1 with ⟨a0, rfl, rfl⟩ | ⟨a0, ⟨a1, rfl, rfl⟩ | ⟨a1, rfl, rfl⟩⟩ <;> rcases h2 with ⟨b0, rfl, rfl⟩ | ⟨b0, b1⟩
  · exact ⟨rfl, hR⟩
  · exact absurd b0 a0
  · exact absurd a0 b0
  · rcases b1 with ⟨b1, rfl, rfl⟩ | ⟨b1, rfl, rfl⟩
    · exact ⟨rfl, hR⟩
    · exact absurd (a1.trans (hL.2.1 _ (by omega)).symm) b1
  · exact absurd a0 b0
  · have hh : hiS M (fup (bkR M kn od) 4 0 x.toNat v) := hiS_t hiS_bk (hiS_up (by decide))
    have e : lS (fup (bkR M kn od) 4 0 x.toNat v) x.toNat = M 4 0 x.toNat := (hh 23 0 _ (by decide)).trans (hL.2.1 _ (by omega))
    rw [e] at b1
    rcases b1 with ⟨b1, rfl, rfl⟩ | ⟨b1, rfl, rfl⟩
    · exact absurd b1 a1
    · refine ⟨rfl, Rel_end (rs_mod (M1 := fup (bkR M kn od) 4 0 x.toNat v) (M2 := fup (nt (fup (bkR M kn od) 4 0 x.toNat v) kn) 23 0 (15 + x.toNat) v) (w' := w) hR hc (fun k a b q1 q2 => fup_ne (by omega)) hh (fun k a b q1 q2 => fup_ne (by omega)) ?_) (loS_t loS_nt (loS_up (by decide)))⟩
      obtain ⟨s1, s2, s3, s4, s5, s6⟩ := hc.2.1.1
      have hg := hc.2.1
      refine sg_now hg ⟨by rw [fup_ne (by omega), bkR_at (by omega)]; exact s1, s2, by rw [fup_ne (by omega), bkR_at (by omega)]; exact s3, fun q hq => by rw [fup_ne (by omega), bkR_at (by omega)]; exact s4 q hq, fun q hq => ?_, by rw [fup_ne (by omega), bkR_at (by omega)]; exact s6⟩ ?_ ?_ ?_ ?_ (fun q hq => ?_) (fun q hq => ?_) (fun b hb => ?_)
      · by_cases e : q = x.toNat
        · rw [e, fup_eq]; exact a0.2
        · rw [fup_ne (by omega), bkR_at (by omega)]; exact s5 q hq
      · rw [fup_ne (by omega), nt_23 hh]; exact (nOk_of hc.1.2.1 hg).1
      · rw [fup_ne (by omega), nt_23 hh, fup_ne (by omega), bkR_at (by omega)]; exact hL.2.2.1
      · rw [fup_ne (by omega), nt_23 hh]; exact (nOk_of hc.1.2.1 hg).2.1
      · rw [fup_ne (by omega), nt_23 hh, fup_ne (by omega), bkR_at (by omega)]; exact hL.2.2.2
      · rw [fup_ne (by omega), nt_23 hh, fup_ne (by omega), bkR_at (by omega)]; exact hL.1 q hq
      · by_cases e : q = x.toNat
        · rw [e, fup_eq, fup_eq]
        · rw [fup_ne (by omega), nt_23 hh, fup_ne (by omega), bkR_at (by omega)]; exact hL.2.1 q hq
      · by_cases e : b = 15 + x.toNat
        · rw [e, fup_eq]; exact a0.2.1
        · rw [fup_ne (by omega), nt_23 hh]; exact sg_nn hg b hb
theorem rs_shape {M M1 M2 : fM} {w : Nat} {p : Int} {kn od : Nat} {v z z' : Int} (hR : Rel M) (hc : core M M w p kn od)
    (h1 : (¬ (0 ≤ v ∧ v < 5) ∧ z = -1 ∧ M1 = M) ∨ ((0 ≤ v ∧ v < 5) ∧ ((v = M 2 0 1 ∧ z = -2 ∧ M1 = M) ∨ (v ≠ M 2 0 1 ∧ z = M 2 0 1 ∧ M1 = fup (bkR M kn od) 2 0 1 v))))
    (h2 : (¬ (0 ≤ v ∧ v < 5) ∧ z' = -1 ∧ M2 = M1) ∨ ((0 ≤ v ∧ v < 5) ∧ ((v = M1 23 0 1 ∧ z' = -2 ∧ M2 = M1) ∨ (v ≠ M1 23 0 1 ∧ z' = M1 23 0 1 ∧ M2 = fup (nt M1 kn) 23 0 1 v)))) : z = z' ∧ Rel M2 := by
  have hL := sg_L hc.2.1
  rcases h1 with ⟨a0, rfl, rfl⟩ | ⟨a0, ⟨a1, rfl, rfl⟩ | ⟨a1, rfl, rfl⟩⟩ <;> rcases h2 with ⟨b0, rfl, rfl⟩ | ⟨b0, b1⟩
  · exact ⟨rfl, hR⟩
  · exact absurd b0 a0
  · exact absurd a0 b0
  · rcases b1 with ⟨b1, rfl, rfl⟩ | ⟨b1, rfl, rfl⟩
    · exact ⟨rfl, hR⟩
    · exact absurd (a1.trans hL.2.2.1.symm) b1
  · exact absurd a0 b0
  · have hh : hiS M (fup (bkR M kn od) 2 0 1 v) := hiS_t hiS_bk (hiS_up (by decide))
    have e : fup (bkR M kn od) 2 0 1 v 23 0 1 = M 2 0 1 := (hh 23 0 _ (by decide)).trans hL.2.2.1
    rw [e] at b1
    rcases b1 with ⟨b1, rfl, rfl⟩ | ⟨b1, rfl, rfl⟩
    · exact absurd b1 a1
    · refine ⟨rfl, Rel_end (rs_mod (M1 := fup (bkR M kn od) 2 0 1 v) (M2 := fup (nt (fup (bkR M kn od) 2 0 1 v) kn) 23 0 1 v) (w' := w) hR hc (fun k a b q1 q2 => fup_ne (by omega)) hh (fun k a b q1 q2 => fup_ne (by omega)) ?_) (loS_t loS_nt (loS_up (by decide)))⟩
      obtain ⟨s1, s2, s3, s4, s5, s6⟩ := hc.2.1.1
      have hg := hc.2.1
      refine sg_now hg ⟨by rw [fup_ne (by omega), bkR_at (by omega)]; exact s1, s2, by rw [fup_eq]; omega, fun q hq => by rw [fup_ne (by omega), bkR_at (by omega)]; exact s4 q hq, fun q hq => by rw [fup_ne (by omega), bkR_at (by omega)]; exact s5 q hq, by rw [fup_ne (by omega), bkR_at (by omega)]; exact s6⟩ ?_ ?_ ?_ ?_ (fun q hq => ?_) (fun q hq => ?_) (fun b hb => ?_)
      · rw [fup_ne (by omega), nt_23 hh]; exact (nOk_of hc.1.2.1 hg).1
      · rw [fup_eq, fup_eq]
      · rw [fup_ne (by omega), nt_23 hh]; exact (nOk_of hc.1.2.1 hg).2.1
      · rw [fup_ne (by omega), nt_23 hh, fup_ne (by omega), bkR_at (by omega)]; exact hL.2.2.2
      · rw [fup_ne (by omega), nt_23 hh, fup_ne (by omega), bkR_at (by omega)]; exact hL.1 q hq
      · rw [fup_ne (by omega), nt_23 hh, fup_ne (by omega), bkR_at (by omega)]; exact hL.2.1 q hq
      · by_cases e : b = 1
        · rw [e, fup_eq]; exact a0.1
        · rw [fup_ne (by omega), nt_23 hh]; exact sg_nn hg b hb
theorem rs_widen {M M1 M2 : fM} {w : Nat} {p : Int} {kn od : Nat} {z z' : Int} (hR : Rel M) (hc : core M M w p kn od)
    (h1 : (6 ≤ w ∧ z = -3 ∧ M1 = M) ∨ (w < 6 ∧ z = (w : Int) + 1 ∧ M1 = adB (bkR M kn od) 0 w))
    (h2 : (6 ≤ w ∧ z' = -3 ∧ M2 = M1) ∨ (w < 6 ∧ z' = (w : Int) + 1 ∧ M2 = mWd (nt M1 kn) w)) : z = z' ∧ Rel M2 := by
  have hL := sg_L hc.2.1
  rcases h1 with ⟨a0, rfl, rfl⟩ | ⟨a0, rfl, rfl⟩ <;> rcases h2 with ⟨b0, rfl, rfl⟩ | ⟨b0, rfl, rfl⟩
  · exact ⟨rfl, hR⟩
  · omega
  · omega
  · have hh : hiS M (adB (bkR M kn od) 0 w) := hiS_t hiS_bk hiS_ad
    obtain ⟨s1, s2, s3, s4, s5, s6⟩ := hc.2.1.1
    have hg := hc.2.1
    have hp2 := hc.1.2.1.1
    have aN : ∀ k b, ¬ (k = 3 ∧ b ≤ 2 * w) → ¬ (k = 4 ∧ b = w) → ¬ (k = 2 ∧ b = 0) → (k = 2 ∨ k = 3 ∨ k = 4) → adB (bkR M kn od) 0 w k 0 b = M k 0 b := fun k b q1 q2 q3 q4 => by
      unfold adB
      rw [if_neg (by omega), if_neg (by omega), if_neg (by omega), bkR_at q4]
    have a3 : ∀ q, q < 2 * w + 1 → adB (bkR M kn od) 0 w 3 0 q = if q = 0 ∨ q = 2 * w then 0 else M 3 0 (q - 1) := fun q hq => by
      unfold adB
      rw [if_pos ⟨rfl, rfl, by omega⟩, bkR_at (by omega)]
    have a4 : ∀ q, q < w + 1 → adB (bkR M kn od) 0 w 4 0 q = if q = w then 0 else M 4 0 q := fun q hq => by
      by_cases e : q = w
      · unfold adB
        rw [if_neg (by omega), if_pos ⟨rfl, rfl, e⟩, if_pos e]
      · rw [aN 4 q (by omega) (by omega) (by omega) (by omega), if_neg e]
    have d : ∀ b, mWd (nt (adB (bkR M kn od) 0 w) kn) w 23 0 b = if b = 0 then (w : Int) + 1 else if b = 15 + w then 0 else if b = 4 ∨ b = 4 + 2 * w then 0 else if 4 < b ∧ b < 4 + 2 * w then M 23 0 (b - 1) else M 23 0 b := fun b => by
      unfold mWd
      rw [if_pos ⟨rfl, rfl⟩, nt_23 hh, nt_23 hh]
    have hs : sOk (adB (bkR M kn od) 0 w) 0 (w + 1) p := by
      refine ⟨by unfold adB; rw [if_neg (by omega), if_neg (by omega), if_pos ⟨rfl, rfl, rfl⟩]; omega, by omega, by rw [aN 2 1 (by omega) (by omega) (by omega) (by omega)]; exact s3, fun q hq => ?_, fun q hq => ?_, by rw [aN 2 2 (by omega) (by omega) (by omega) (by omega)]; exact s6⟩
      · rw [a3 q (by omega)]
        split
        · omega
        · exact s4 _ (by omega)
      · rw [a4 q (by omega)]
        split
        · omega
        · exact s5 _ (by omega)
    refine ⟨rfl, Rel_end (rs_mod (M1 := adB (bkR M kn od) 0 w) (M2 := mWd (nt (adB (bkR M kn od) 0 w) kn) w) (w' := w + 1) hR hc (fun k a b q1 q2 => by unfold adB; rw [if_neg (by omega), if_neg (by omega), if_neg (by omega)]) hh (fun k a b q1 q2 => by unfold mWd; rw [if_neg (by omega)]) (sg_now hg hs ?_ ?_ ?_ ?_ (fun q hq => ?_) (fun q hq => ?_) (fun b hb => ?_))) (loS_t loS_nt loS_wd)⟩
    · rw [d, if_pos rfl]; omega
    · rw [d, if_neg (by omega), if_neg (by omega), if_neg (by omega), if_neg (by omega), aN 2 1 (by omega) (by omega) (by omega) (by omega)]; exact hL.2.2.1
    · rw [d, if_neg (by omega), if_neg (by omega), if_neg (by omega), if_neg (by omega)]; exact (nOk_of hc.1.2.1 hg).2.1
    · rw [d, if_neg (by omega), if_neg (by omega), if_neg (by omega), if_neg (by omega), aN 2 2 (by omega) (by omega) (by omega) (by omega)]; exact hL.2.2.2
    · rw [d, if_neg (by omega), if_neg (by omega), a3 q (by omega)]
      by_cases e : q = 0 ∨ q = 2 * w
      · rw [if_pos (by omega), if_pos e]
      · rw [if_neg (by omega), if_pos (by omega), if_neg e, show 4 + q - 1 = 4 + (q - 1) by omega]
        exact hL.1 (q - 1) (by omega)
    · rw [d, if_neg (by omega), a4 q (by omega)]
      by_cases e : q = w
      · rw [if_pos (by omega), if_pos e]
      · rw [if_neg (by omega), if_neg (by omega), if_neg (by omega), if_neg e]
        exact hL.2.1 q (by omega)
    · rw [d]
      have h0 := sg_nn hg
      split
      · omega
      · split
        · omega
        · split
          · omega
          · split
            · exact h0 _ (by omega)
            · exact h0 _ hb
theorem rs_cut {M M1 M2 : fM} {w : Nat} {p : Int} {kn od : Nat} {z z' : Int} (hR : Rel M) (hc : core M M w p kn od)
    (h1 : (w = 1 ∧ z = -2 ∧ M1 = M) ∨ (1 < w ∧ z = (w : Int) - 1 ∧ M1 = drB (bkR M kn od) 0 w))
    (h2 : (w = 1 ∧ z' = -2 ∧ M2 = M1) ∨ (1 < w ∧ z' = (w : Int) - 1 ∧ M2 = mCt (nt M1 kn) w)) : z = z' ∧ Rel M2 := by
  have hL := sg_L hc.2.1
  rcases h1 with ⟨a0, rfl, rfl⟩ | ⟨a0, rfl, rfl⟩ <;> rcases h2 with ⟨b0, rfl, rfl⟩ | ⟨b0, rfl, rfl⟩
  · exact ⟨rfl, hR⟩
  · omega
  · omega
  · have hh : hiS M (drB (bkR M kn od) 0 w) := hiS_t hiS_bk hiS_dr
    obtain ⟨s1, s2, s3, s4, s5, s6⟩ := hc.2.1.1
    have hg := hc.2.1
    have aN : ∀ k b, ¬ (k = 3 ∧ b < 2 * w - 3) → ¬ (k = 2 ∧ b = 0) → (k = 2 ∨ k = 3 ∨ k = 4) → drB (bkR M kn od) 0 w k 0 b = M k 0 b := fun k b q1 q2 q4 => by
      unfold drB
      rw [if_neg (by omega), if_neg (by omega), bkR_at q4]
    have a3 : ∀ q, q < 2 * w - 3 → drB (bkR M kn od) 0 w 3 0 q = M 3 0 (q + 1) := fun q hq => by
      unfold drB
      rw [if_pos ⟨rfl, rfl, by omega⟩, bkR_at (by omega)]
    have d : ∀ b, mCt (nt (drB (bkR M kn od) 0 w) kn) w 23 0 b = if b = 0 then (w : Int) - 1 else if b = 15 + (w - 1) then 0 else if b = 4 + (2 * w - 3) ∨ b = 4 + (2 * w - 2) then 0 else if 4 ≤ b ∧ b < 4 + (2 * w - 3) then M 23 0 (b + 1) else M 23 0 b := fun b => by
      unfold mCt
      rw [if_pos ⟨rfl, rfl⟩, nt_23 hh, nt_23 hh]
    have hs : sOk (drB (bkR M kn od) 0 w) 0 (w - 1) p := by
      refine ⟨by unfold drB; rw [if_neg (by omega), if_pos ⟨rfl, rfl, rfl⟩]; omega, by omega, by rw [aN 2 1 (by omega) (by omega) (by omega)]; exact s3, fun q hq => ?_, fun q hq => ?_, by rw [aN 2 2 (by omega) (by omega) (by omega)]; exact s6⟩
      · rw [a3 q (by omega)]; exact s4 _ (by omega)
      · rw [aN 4 q (by omega) (by omega) (by omega)]; exact s5 _ (by omega)
    refine ⟨rfl, Rel_end (rs_mod (M1 := drB (bkR M kn od) 0 w) (M2 := mCt (nt (drB (bkR M kn od) 0 w) kn) w) (w' := w - 1) hR hc (fun k a b q1 q2 => by unfold drB; rw [if_neg (by omega), if_neg (by omega)]) hh (fun k a b q1 q2 => by unfold mCt; rw [if_neg (by omega)]) (sg_now hg hs ?_ ?_ ?_ ?_ (fun q hq => ?_) (fun q hq => ?_) (fun b hb => ?_))) (loS_t loS_nt loS_ct)⟩
    · rw [d, if_pos rfl]; omega
    · rw [d, if_neg (by omega), if_neg (by omega), if_neg (by omega), if_neg (by omega), aN 2 1 (by omega) (by omega) (by omega)]; exact hL.2.2.1
    · rw [d, if_neg (by omega), if_neg (by omega), if_neg (by omega), if_neg (by omega)]; exact (nOk_of hc.1.2.1 hg).2.1
    · rw [d, if_neg (by omega), if_neg (by omega), if_neg (by omega), if_neg (by omega), aN 2 2 (by omega) (by omega) (by omega)]; exact hL.2.2.2
    · rw [d, if_neg (by omega), if_neg (by omega), if_neg (by omega), if_pos (by omega), a3 q (by omega), show 4 + q + 1 = 4 + (q + 1) by omega]
      exact hL.1 (q + 1) (by omega)
    · rw [d, if_neg (by omega), if_neg (by omega), if_neg (by omega), if_neg (by omega), aN 4 q (by omega) (by omega) (by omega)]
      exact hL.2.1 q (by omega)
    · rw [d]
      have h0 := sg_nn hg
      split
      · omega
      · split
        · omega
        · split
          · omega
          · split
            · exact h0 _ (by omega)
            · exact h0 _ hb
