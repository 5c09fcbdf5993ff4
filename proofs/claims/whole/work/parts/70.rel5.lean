/-! ===== calls that only ask ===== -/
theorem rs_q {M M1 M2 : fM} (hR : Rel M) (hz : zS M M1) (hg : gI M1) (hW : WpOk M1) (hm : mS M1 M2) : Rel M2 := Rel_end (Rel_z (Rel2_D hR (hiS_z hz)) hz hg hW hm) (loS_m hm)
theorem wp_g {M M1 : fM} (h : WpOk M) (hS : gS M M1) : WpOk M1 := Wp_z h (fun k a b hk => hS k a b (by omega) (by omega) (by omega) (by omega))
theorem wp_t {M M1 : fM} (h : WpOk M) (hS : tS M M1) : WpOk M1 := Wp_z h (fun k a b hk => hS k a b (by omega) (by omega) (by omega) (by omega) (by omega))
theorem wp_u {M M1 : fM} (h : WpOk M) (hS : uS M M1) : WpOk M1 := Wp_z h (fun k a b hk => hS k a b (by omega) (by omega) (by omega) (by omega) (by omega) (by omega) (by omega) (by omega))
theorem rq_g {M M1 M2 : fM} (hR : Rel M) (hS : gS M M1) (hg : gI M1) (hm : mS M1 M2) : Rel M2 := rs_q hR (zS_g hS) hg (wp_g hR.2.2.2.2 hS) hm
theorem rq_t {M M1 M2 : fM} (hR : Rel M) (hS : tS M M1) (hg : gI M1) (hm : mS M1 M2) : Rel M2 := rs_q hR (zS_tt hS) hg (wp_t hR.2.2.2.2 hS) hm
theorem rq_u {M M1 M2 : fM} (hR : Rel M) (hS : uS M M1) (hg : gI M1) (hm : mS M1 M2) : Rel M2 := rs_q hR (zS_u hS) hg (wp_u hR.2.2.2.2 hS) hm
theorem sgz {M M1 : fM} {w : Nat} {p : Int} (h : sg M 0 M 23 0 w p) (hz : zS M M1) : sg M 0 M1 23 0 w p := sg_D h (by decide) (hiS_z hz)
theorem rs_line {M M1 M2 : fM} {w : Nat} {p : Int} {kn od : Nat} {x z z' : Int} (hR : Rel M) (hc : core M M w p kn od)
    (h1 : z = (if 0 ≤ x ∧ x < ((2 * w - 1 : Nat) : Int) then M 3 0 x.toNat else -1) ∧ M1 = M)
    (h2 : z' = (if 0 ≤ x ∧ x < ((2 * w - 1 : Nat) : Int) then lL M1 x.toNat else -1) ∧ M2 = M1) : z = z' ∧ Rel M2 := by
  obtain ⟨rfl, rfl⟩ := h1
  obtain ⟨rfl, rfl⟩ := h2
  refine ⟨?_, hR⟩
  split
  · exact ((sg_L hc.2.1).1 _ (by omega)).symm
  · rfl
theorem rs_right {M M1 M2 : fM} {w : Nat} {p : Int} {kn od : Nat} {x z z' : Int} (hR : Rel M) (hc : core M M w p kn od)
    (h1 : z = (if 0 ≤ x ∧ x < (w : Int) then M 4 0 x.toNat else -1) ∧ M1 = M)
    (h2 : z' = (if 0 ≤ x ∧ x < (w : Int) then lS M1 x.toNat else -1) ∧ M2 = M1) : z = z' ∧ Rel M2 := by
  obtain ⟨rfl, rfl⟩ := h1
  obtain ⟨rfl, rfl⟩ := h2
  refine ⟨?_, hR⟩
  split
  · exact ((sg_L hc.2.1).2.1 _ (by omega)).symm
  · rfl
theorem rs_entry {M M1 M2 : fM} {w : Nat} {p : Int} {kn od : Nat} {x y z z' : Int} (hR : Rel M) (hc : core M M w p kn od)
    (h1 : z = (if (0 ≤ x ∧ x < (w : Int)) ∧ (0 ≤ y ∧ y < (w : Int)) then eM M 0 w p x.toNat y.toNat else -1) ∧ M1 = M)
    (h2 : z' = (if (0 ≤ x ∧ x < (w : Int)) ∧ (0 ≤ y ∧ y < (w : Int)) then eN M1 w p x.toNat y.toNat else -1) ∧ M2 = M1) : z = z' ∧ Rel M2 := by
  obtain ⟨rfl, rfl⟩ := h1
  obtain ⟨rfl, rfl⟩ := h2
  refine ⟨?_, hR⟩
  split
  · exact (ent_2 hc.2.1 _ _ (by omega) (by omega)).symm
  · rfl
theorem rs_corner {M M1 M2 : fM} {w : Nat} {p : Int} {kn od : Nat} {x z z' : Int} (hR : Rel M) (hc : core M M w p kn od)
    (h1 : z = (if 0 ≤ x ∧ x ≤ (w : Int) then dt x.toNat (eM M 0 w p) % p else -1) ∧ gS M M1 ∧ gI M1)
    (h2 : z' = (if 0 ≤ x ∧ x ≤ (w : Int) then dt x.toNat (eN M1 w p) % p else -1) ∧ mS M1 M2) : z = z' ∧ Rel M2 := by
  obtain ⟨rfl, hS, hg⟩ := h1
  obtain ⟨rfl, hm⟩ := h2
  refine ⟨?_, rq_g hR hS hg hm⟩
  split
  · rw [dt_2 (sgz hc.2.1 (zS_g hS)) (by omega)]
  · rfl
theorem rs_leap {M M1 M2 : fM} {w : Nat} {p : Int} {kn od : Nat} {x z z' : Int} (hR : Rel M) (hc : core M M w p kn od)
    (h1 : ((¬ (0 ≤ x ∧ x < (w : Int)) ∧ z = -1) ∨ ((0 ≤ x ∧ x < (w : Int)) ∧ LpS (fun q => dt q (eM M 0 w p) % p) w x.toNat z)) ∧ gS M M1 ∧ gI M1)
    (h2 : ((¬ (0 ≤ x ∧ x < (w : Int)) ∧ z' = -1) ∨ ((0 ≤ x ∧ x < (w : Int)) ∧ LpS (fun q => dt q (eN M1 w p) % p) w x.toNat z')) ∧ mS M1 M2) : z = z' ∧ Rel M2 := by
  obtain ⟨a, hS, hg⟩ := h1
  obtain ⟨b, hm⟩ := h2
  refine ⟨?_, rq_g hR hS hg hm⟩
  rcases a with ⟨a0, rfl⟩ | ⟨a0, a1⟩ <;> rcases b with ⟨b0, rfl⟩ | ⟨b0, b1⟩
  · rfl
  · exact absurd b0 a0
  · exact absurd a0 b0
  · exact LpS_one (fun q hq => by show dt q (eM M 0 w p) % p = dt q (eN M1 w p) % p; rw [dt_2 (sgz hc.2.1 (zS_g hS)) hq]) a1 b1
theorem aug_n {M M1 : fM} {w : Nat} {p : Int} (h : sg M 0 M1 23 0 w p) : ∀ i j, i < w → j ≤ w → aug (eN M1 w p) w (lS M1) i j = aug (eM M 0 w p) w (M 4 0) i j := aug_2 (ent_2 h) (sg_L h).2.1
theorem rs_solved {M M1 M2 : fM} {w : Nat} {p : Int} {kn od : Nat} {x z z' : Int} (hR : Rel M) (hc : core M M w p kn od)
    (h1 : ((¬ (x = -1 ∨ (0 ≤ x ∧ x < (w : Int))) ∧ z = -1) ∨ ((x = -1 ∨ (0 ≤ x ∧ x < (w : Int))) ∧ SvS p w (aug (eM M 0 w p) w (M 4 0)) x z)) ∧ gS M M1 ∧ gI M1)
    (h2 : ((¬ (x = -1 ∨ (0 ≤ x ∧ x < (w : Int))) ∧ z' = -1) ∨ ((x = -1 ∨ (0 ≤ x ∧ x < (w : Int))) ∧ SvS p w (aug (eN M1 w p) w (lS M1)) x z')) ∧ mS M1 M2) : z = z' ∧ Rel M2 := by
  obtain ⟨a, hS, hg⟩ := h1
  obtain ⟨b, hm⟩ := h2
  refine ⟨?_, rq_g hR hS hg hm⟩
  rcases a with ⟨a0, rfl⟩ | ⟨a0, n, al, a1, a2⟩ <;> rcases b with ⟨b0, rfl⟩ | ⟨b0, n', bl, b1, b2⟩
  · rfl
  · exact absurd b0 a0
  · exact absurd a0 b0
  · have b1' := SolZ_c (aug_n (sgz hc.2.1 (zS_g hS))) b1
    obtain ⟨e1, e2⟩ := SolZ_one hc.1.2.1.1.1 a1 b1'
    rcases a2 with ⟨a3, rfl⟩ | ⟨a3, a4, rfl⟩ | ⟨a3, a4, rfl⟩ <;> rcases b2 with ⟨b3, rfl⟩ | ⟨b3, b4, rfl⟩ | ⟨b3, b4, rfl⟩
    · exact e1
    · exact absurd a3 b3
    · exact absurd a3 b3
    · exact absurd b3 a3
    · rfl
    · exact absurd (e1.symm.trans a4) b4
    · exact absurd b3 a3
    · exact absurd (e1.trans b4) a4
    · exact e2 a4 _ (by omega)
theorem IvS_c {p : Int} {w x y : Nat} {E E' : Nat → Nat → Int} {z : Int} (e : ∀ i j, i < w → j < w → E i j = E' i j) (h : IvS p w E x y z) : IvS p w E' x y z := by
  have ed : dt w E = dt w E' := dt_congr e
  unfold IvS at h ⊢
  rw [← ed]
  rcases h with h | ⟨h0, a, h1, h2⟩
  · exact Or.inl h
  · exact Or.inr ⟨h0, a, Least_c (aug_2 e (fun _ _ => rfl)) h1, h2⟩
theorem rs_inverse {M M1 M2 : fM} {w : Nat} {p : Int} {kn od : Nat} {x y z z' : Int} (hR : Rel M) (hc : core M M w p kn od)
    (h1 : ((¬ ((0 ≤ x ∧ x < (w : Int)) ∧ (0 ≤ y ∧ y < (w : Int))) ∧ z = -1) ∨ (((0 ≤ x ∧ x < (w : Int)) ∧ (0 ≤ y ∧ y < (w : Int))) ∧ IvS p w (eM M 0 w p) x.toNat y.toNat z)) ∧ gS M M1 ∧ gI M1)
    (h2 : ((¬ ((0 ≤ x ∧ x < (w : Int)) ∧ (0 ≤ y ∧ y < (w : Int))) ∧ z' = -1) ∨ (((0 ≤ x ∧ x < (w : Int)) ∧ (0 ≤ y ∧ y < (w : Int))) ∧ IvS p w (eN M1 w p) x.toNat y.toNat z')) ∧ mS M1 M2) : z = z' ∧ Rel M2 := by
  obtain ⟨a, hS, hg⟩ := h1
  obtain ⟨b, hm⟩ := h2
  refine ⟨?_, rq_g hR hS hg hm⟩
  rcases a with ⟨a0, rfl⟩ | ⟨a0, a1⟩ <;> rcases b with ⟨b0, rfl⟩ | ⟨b0, b1⟩
  · rfl
  · exact absurd b0 a0
  · exact absurd a0 b0
  · exact IvS_one (by omega) a1 (IvS_c (ent_2 (sgz hc.2.1 (zS_g hS))) b1)
theorem cV_f {C D : fM} {w : Nat} {p : Int} (h : sg C 0 D 23 0 w p) (k : Nat) : cW D w p k = cV C w p k := funext fun v => cV_2 h k v
theorem rs_weak {M M1 M2 : fM} {w : Nat} {p : Int} {kn od : Nat} {x y z z' : Int} (hR : Rel M) (hc : core M M w p kn od)
    (h1 : ((¬ ((0 ≤ x ∧ x < ((2 * w - 1 : Nat) : Int)) ∧ (y = 0 ∨ y = 1)) ∧ z = -1) ∨ (((0 ≤ x ∧ x < ((2 * w - 1 : Nat) : Int)) ∧ (y = 0 ∨ y = 1)) ∧ z = (if y = 0 then wkN (cV M w p x.toNat) p.toNat else wkF (cV M w p x.toNat) p.toNat))) ∧ tS M M1 ∧ gI M1)
    (h2 : ((¬ ((0 ≤ x ∧ x < ((2 * w - 1 : Nat) : Int)) ∧ (y = 0 ∨ y = 1)) ∧ z' = -1) ∨ (((0 ≤ x ∧ x < ((2 * w - 1 : Nat) : Int)) ∧ (y = 0 ∨ y = 1)) ∧ z' = (if y = 0 then wkN (cW M1 w p x.toNat) p.toNat else wkF (cW M1 w p x.toNat) p.toNat))) ∧ mS M1 M2) : z = z' ∧ Rel M2 := by
  obtain ⟨a, hS, hg⟩ := h1
  obtain ⟨b, hm⟩ := h2
  refine ⟨?_, rq_t hR hS hg hm⟩
  rw [cV_f (sgz hc.2.1 (zS_tt hS))] at b
  rcases a with ⟨a0, rfl⟩ | ⟨a0, rfl⟩ <;> rcases b with ⟨b0, rfl⟩ | ⟨b0, rfl⟩
  · rfl
  · exact absurd b0 a0
  · exact absurd a0 b0
  · rfl
theorem rs_mend {M M1 M2 : fM} {w : Nat} {p : Int} {kn od : Nat} {y z z' : Int} (hR : Rel M) (hc : core M M w p kn od)
    (h1 : ((¬ (y = 0 ∨ y = 1) ∧ z = -1) ∨ ((y = 0 ∨ y = 1) ∧ ((dt w (eM M 0 w p) % p ≠ 0 ∧ z = -2) ∨ (dt w (eM M 0 w p) % p = 0 ∧ z = mdS (fun k => fst (cV M w p k) 0 p.toNat) (2 * w - 1) y)))) ∧ tS M M1 ∧ gI M1)
    (h2 : ((¬ (y = 0 ∨ y = 1) ∧ z' = -1) ∨ ((y = 0 ∨ y = 1) ∧ ((dt w (eN M1 w p) % p ≠ 0 ∧ z' = -2) ∨ (dt w (eN M1 w p) % p = 0 ∧ z' = mdS (fun k => fst (cW M1 w p k) 0 p.toNat) (2 * w - 1) y)))) ∧ mS M1 M2) : z = z' ∧ Rel M2 := by
  obtain ⟨a, hS, hg⟩ := h1
  obtain ⟨b, hm⟩ := h2
  refine ⟨?_, rq_t hR hS hg hm⟩
  have e : (fun k => fst (cW M1 w p k) 0 p.toNat) = (fun k => fst (cV M w p k) 0 p.toNat) := funext fun k => by rw [cV_f (sgz hc.2.1 (zS_tt hS))]
  rw [e, dt_2 (sgz hc.2.1 (zS_tt hS)) (Nat.le_refl w)] at b
  rcases a with ⟨a0, rfl⟩ | ⟨a0, ⟨a1, rfl⟩ | ⟨a1, rfl⟩⟩ <;> rcases b with ⟨b0, rfl⟩ | ⟨b0, ⟨b1, rfl⟩ | ⟨b1, rfl⟩⟩
  · rfl
  · exact absurd b0 a0
  · exact absurd b0 a0
  · exact absurd a0 b0
  · rfl
  · exact absurd b1 a1
  · exact absurd a0 b0
  · exact absurd a1 b1
  · rfl
theorem rs_term {M M1 M2 : fM} {w : Nat} {p : Int} {kn od : Nat} {x z z' : Int} (hR : Rel M) (hc : core M M w p kn od)
    (h1 : (∃ l a, LawS p (M 3 0) (2 * w - 1) l a ∧ z = (if 1 ≤ x ∧ x ≤ ((l : Nat) : Int) then a (x.toNat - 1) else -1)) ∧ gS M M1 ∧ gI M1)
    (h2 : ((x ≤ 0 ∧ z' = -1) ∨ ∃ l a, LawS p (lL M1) (2 * w - 1) l a ∧ z' = (if 1 ≤ x ∧ x ≤ ((l : Nat) : Int) then a (x.toNat - 1) else -1)) ∧ mS M1 M2) : z = z' ∧ Rel M2 := by
  obtain ⟨⟨l, a, a1, rfl⟩, hS, hg⟩ := h1
  obtain ⟨b, hm⟩ := h2
  refine ⟨?_, rq_g hR hS hg hm⟩
  rcases b with ⟨b0, rfl⟩ | ⟨l', a', b1, rfl⟩
  · rw [if_neg (by omega)]
  · obtain ⟨rfl, e⟩ := LawS_one a1 (LawS_c (sg_L (sgz hc.2.1 (zS_g hS))).1 b1)
    split
    · exact e _ (by omega)
    · rfl
theorem rs_next {M M1 M2 : fM} {w : Nat} {p : Int} {kn od : Nat} {x z z' : Int} (hR : Rel M) (hc : core M M w p kn od)
    (h1 : ((¬ (0 ≤ x ∧ x ≤ 20) ∧ z = -1) ∨ ((0 ≤ x ∧ x ≤ 20) ∧ ∃ l a, LawS p (M 3 0) (2 * w - 1) l a ∧ z = sqN p (M 3 0) (2 * w - 1) l a (x.toNat + 1) (2 * w - 1 + x.toNat))) ∧ uS M M1 ∧ gI M1)
    (h2 : ((¬ (0 ≤ x ∧ x ≤ 20) ∧ z' = -1) ∨ ((0 ≤ x ∧ x ≤ 20) ∧ ∃ l a, LawS p (lL M1) (2 * w - 1) l a ∧ z' = sqN p (lL M1) (2 * w - 1) l a (x.toNat + 1) (2 * w - 1 + x.toNat))) ∧ mS M1 M2) : z = z' ∧ Rel M2 := by
  obtain ⟨a, hS, hg⟩ := h1
  obtain ⟨b, hm⟩ := h2
  refine ⟨?_, rq_u hR hS hg hm⟩
  rcases a with ⟨a0, rfl⟩ | ⟨a0, l, a, a1, rfl⟩ <;> rcases b with ⟨b0, rfl⟩ | ⟨b0, l', a', b1, rfl⟩
  · rfl
  · exact absurd b0 a0
  · exact absurd a0 b0
  · have hL := (sg_L (sgz hc.2.1 (zS_u hS))).1
    obtain ⟨rfl, e⟩ := LawS_one a1 (LawS_c hL b1)
    exact (sqN_c hL (fun c hc => (e c hc).symm) a1.1 _ _ (by omega)).symm
theorem rs_count {M M1 M2 : fM} {w : Nat} {p : Int} {kn od : Nat} {x z z' : Int} (hR : Rel M) (hc : core M M w p kn od)
    (h1 : CtS p w (M 2 0 1) (M 1 0 1) (M 3 0) x z ∧ gS M M1 ∧ gI M1)
    (h2 : CtM p w (M1 23 0 1) (M1 22 0 9) (lL M1) x z' ∧ mS M1 M2) : z = z' ∧ Rel M2 := by
  obtain ⟨a, hS, hg⟩ := h1
  obtain ⟨b, hm⟩ := h2
  refine ⟨?_, rq_g hR hS hg hm⟩
  have hg2 := sgz hc.2.1 (zS_g hS)
  have hL := sg_L hg2
  have hkn : M1 22 0 9 = M 1 0 1 := by rw [hiS_z (zS_g hS) _ _ _ (by decide), hc.2.2.2.1, hc.2.2.1.1]
  have hE : ∀ i j, i < w → j < w → ent p w (M1 23 0 1) (lL M1) i j = ent p w (M 2 0 1) (M 3 0) i j := ent_2 hg2
  rcases a with ⟨a0, rfl⟩ | ⟨a0, rfl⟩ | ⟨a0, rfl⟩ | ⟨a0, k, a, rfl, a1⟩ | ⟨a0, rfl⟩ | ⟨a0, rfl⟩ | ⟨a0, l, a, rfl, a1⟩ | ⟨a0, rfl⟩ | ⟨a0, rfl⟩ <;> rcases b with ⟨b0, rfl⟩ | ⟨b0, rfl⟩ | ⟨b0, rfl⟩ | ⟨b0, k', ok', a', s', rfl, b1⟩ | ⟨b0, rfl⟩ | ⟨b0, rfl⟩ | ⟨b0, l', a', rfl, b1⟩ | ⟨b0, rfl⟩ | ⟨b0, rfl⟩ <;> first | (exfalso; omega) | skip
  · rfl
  · exact hL.2.2.1.symm
  · rfl
  · have b2 := LSpec_congr (D := aug (ent p w (M 2 0 1) (M 3 0)) w s') (aug_2 hE (fun _ _ => rfl)) b1
    rw [rank_same a1 b2]
  · exact sst_c (fun k hk => by show dt k (ent p w (M 2 0 1) (M 3 0)) % p = dt k (ent p w (M1 23 0 1) (lL M1)) % p; rw [dt_congr (fun i j hi hj => hE i j (by omega) (by omega))])
  · rw [dt_congr hE]
  · rw [(LawS_one a1 (LawS_c hL.1 b1)).1]
  · exact hkn.symm
  · rfl
theorem rs_wiped {M M1 M2 : fM} {w : Nat} {p : Int} {kn od : Nat} {c y z z' : Int} (hR : Rel M) (hc : core M M w p kn od)
    (h1 : ((¬ ((0 ≤ c ∧ c ≤ 10) ∧ (y = 0 ∨ y = 1)) ∧ z = -1) ∨ (((0 ≤ c ∧ c ≤ 10) ∧ (y = 0 ∨ y = 1)) ∧ WsS p w (M 2 0 1) (M 3 0) c.toNat y z)) ∧ vS M M1 ∧ gI M1 ∧ WpOk M1)
    (h2 : ((¬ ((0 ≤ c ∧ c ≤ 10) ∧ (y = 0 ∨ y = 1)) ∧ z' = -1) ∨ (((0 ≤ c ∧ c ≤ 10) ∧ (y = 0 ∨ y = 1)) ∧ WmS p w (M1 23 0 1) (lL M1) c.toNat y z')) ∧ mS M1 M2) : z = z' ∧ Rel M2 := by
  obtain ⟨a, hS, hg, hW⟩ := h1
  obtain ⟨b, hm⟩ := h2
  refine ⟨?_, rs_q hR (zS_v hS) hg hW hm⟩
  have hL := sg_L (sgz hc.2.1 (zS_v hS))
  rw [hL.2.2.1] at b
  rcases a with ⟨a0, rfl⟩ | ⟨a0, a1⟩ <;> rcases b with ⟨b0, rfl⟩ | ⟨b0, b1⟩
  · rfl
  · exact absurd b0 a0
  · exact absurd a0 b0
  · exact WsS_one (by omega) hc.2.1.1.2.2.1 hL.1 a1 b1
