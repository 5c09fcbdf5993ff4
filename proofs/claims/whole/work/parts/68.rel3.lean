/-! ===== turn, drift, undo, seed, prime, type ===== -/
theorem nt_hh {B M1 : fM} {kn : Nat} (h : hiS B M1) : ∀ k a b, 22 ≤ k → nt M1 kn k a b = nt B kn k a b := by
  intro k a b hk
  unfold nt
  split
  · simp only [fup, nt2]
    split
    · rfl
    · split
      · exact h _ _ _ (by decide)
      · exact h _ _ _ hk
  · simp only [fup, nt2, ahS]
    repeat' split
    all_goals first | rfl | exact h _ _ _ (by decide) | exact h _ _ _ hk
theorem zfin {B D M1 M2 : fM} (h : Rel2 B D) (hS : gS B M1) (hG : gI M1) (hm : mS D M2) : Rel2 M1 M2 := Rel_z h (zS_g hS) hG (Wp_z h.2.2.2.2 (fun k a b hk => hS k a b (by omega) (by omega) (by omega) (by omega))) hm
theorem rs_turn {M M1 M2 : fM} {w : Nat} {p : Int} {kn od : Nat} {z z' : Int} (hR : Rel M) (hc : core M M w p kn od)
    (h1 : z = dt w (eM (rvA (bkR M kn od) 0 w) 0 w p) % p ∧ gS (rvA (bkR M kn od) 0 w) M1 ∧ gI M1)
    (h2 : z' = dt w (eN (mTn (nt M1 kn) w) w p) % p ∧ mS (mTn (nt M1 kn) w) M2) : z = z' ∧ Rel M2 := by
  obtain ⟨rfl, hS, hG⟩ := h1
  obtain ⟨rfl, hm⟩ := h2
  have hL := sg_L hc.2.1
  obtain ⟨s1, s2, s3, s4, s5, s6⟩ := hc.2.1.1
  have hg := hc.2.1
  have hB : hiS M (rvA (bkR M kn od) 0 w) := hiS_t hiS_bk hiS_rv
  have hB1 : hiS (rvA (bkR M kn od) 0 w) M1 := hiS_z (zS_g hS)
  have hh : hiS M M1 := hiS_t hB hB1
  have d : ∀ b, mTn (nt M1 kn) w 23 0 b = if 4 ≤ b ∧ b < 4 + (2 * w - 1) then M 23 0 (4 + (2 * w - 2 - (b - 4))) else M 23 0 b := fun b => by
    unfold mTn
    rw [nt_23 hh, nt_23 hh]
    by_cases e : 4 ≤ b ∧ b < 4 + (2 * w - 1)
    · rw [if_pos ⟨rfl, rfl, e⟩, if_pos e]
    · rw [if_neg (fun q => e q.2.2), if_neg e]
  have aN : ∀ k b, k ≠ 3 → (k = 2 ∨ k = 4) → rvA (bkR M kn od) 0 w k 0 b = M k 0 b := fun k b q1 q4 => by
    unfold rvA
    rw [if_neg (by omega), bkR_at (by omega)]
  have a3 : ∀ q, q < 2 * w - 1 → rvA (bkR M kn od) 0 w 3 0 q = M 3 0 (2 * w - 2 - q) := fun q hq => by
    unfold rvA
    rw [if_pos ⟨rfl, rfl, hq⟩, bkR_at (by omega)]
  have hs : sg (rvA (bkR M kn od) 0 w) 0 (mTn (nt M1 kn) w) 23 0 w p := by
    refine sg_now hg (rvA_s (bkR_s hc.2.1.1)) ?_ ?_ ?_ ?_ (fun q hq => ?_) (fun q hq => ?_) (fun b hb => ?_)
    · rw [d, if_neg (by omega)]; exact (nOk_of hc.1.2.1 hg).1
    · rw [d, if_neg (by omega), aN 2 1 (by decide) (by omega)]; exact hL.2.2.1
    · rw [d, if_neg (by omega)]; exact (nOk_of hc.1.2.1 hg).2.1
    · rw [d, if_neg (by omega), aN 2 2 (by decide) (by omega)]; exact hL.2.2.2
    · rw [d, if_pos (by omega), a3 q hq, show 4 + q - 4 = q by omega]; exact hL.1 _ (by omega)
    · rw [d, if_neg (by omega), aN 4 q (by decide) (by omega)]; exact hL.2.1 q hq
    · rw [d]
      split
      · exact sg_nn hg _ (by omega)
      · exact sg_nn hg b hb
  have hm2 := rs_mod2 (M1 := rvA (bkR M kn od) 0 w) (M2 := mTn (nt M1 kn) w) (Rel2_D hR hB) (core_D hc hB) (fun k a b q1 q2 => by unfold rvA; rw [if_neg (by omega)]) (fun k a b q1 q2 => by unfold mTn; rw [if_neg (by omega)]; exact nt_hh hB1 k a b q1) hs
  exact ⟨by rw [dt_2 hs (Nat.le_refl w)], Rel_end (zfin hm2.1 hS hG hm) (loS_t (loS_t loS_nt loS_tn) (loS_m hm))⟩
theorem rs_d1 {M N : fM} {w : Nat} {p : Int} {kn od : Nat} (hR : Rel2 M N) (hc : core M N w p kn od) : Rel2 (dr1 M kn od w p) (md1 N kn w p) ∧ core (dr1 M kn od w p) (md1 N kn w p) w p (dkn kn) (dod kn od) := by
  have hL := sg_L hc.2.1
  have hg := hc.2.1
  have hn := nOk_of hc.1.2.1 hg
  have hp2 := hc.1.2.1.1
  have n23 : ∀ b, nt N kn 23 0 b = N 23 0 b := fun b => nt_ne (by decide) (by omega)
  have hdd := dDr_b (M 2 0 2)
  have hw := hn.2.2.2.1
  have hpl := modb (x := dDr (M 2 0 2) / 65536) (p := ((2 * w - 1 : Nat) : Int)) (by omega)
  have d : ∀ b, md1 N kn w p 23 0 b = if b = 4 + (dDr (M 2 0 2) / 65536 % ((2 * w - 1 : Nat) : Int)).toNat then dDr (M 2 0 2) / 256 % p else if b = 3 then dDr (M 2 0 2) else N 23 0 b := fun b => by
    unfold md1 mdf
    rw [n23, n23, hL.2.2.2]
    by_cases e : b = 4 + (dDr (M 2 0 2) / 65536 % ((2 * w - 1 : Nat) : Int)).toNat
    · rw [if_pos ⟨rfl, rfl, e⟩, if_pos e]
    · rw [if_neg (fun q => e q.2.2), if_neg e]
      by_cases e2 : b = 3
      · rw [if_pos ⟨rfl, rfl, e2⟩, if_pos e2]
      · rw [if_neg (fun q => e2 q.2.2), if_neg e2]
  have c2 : ∀ b, b ≠ 2 → dr1 M kn od w p 2 0 b = M 2 0 b := fun b hb => by
    unfold dr1 drf
    rw [if_neg (by omega), if_neg (by omega), bkR_at (by omega)]
  have c4 : ∀ b, dr1 M kn od w p 4 0 b = M 4 0 b := fun b => by
    unfold dr1 drf
    rw [if_neg (by omega), if_neg (by omega), bkR_at (by omega)]
  have c3 : ∀ q, dr1 M kn od w p 3 0 q = if (q : Int) = dDr (M 2 0 2) / 65536 % ((2 * w - 1 : Nat) : Int) then dDr (M 2 0 2) / 256 % p else M 3 0 q := fun q => by
    unfold dr1 drf
    rw [if_neg (by omega), bkR_at (by omega), bkR_at (by omega)]
    by_cases e : (q : Int) = dDr (M 2 0 2) / 65536 % ((2 * w - 1 : Nat) : Int)
    · rw [if_pos ⟨rfl, rfl, e⟩, if_pos e]
    · rw [if_neg (fun z => e z.2.2), if_neg e]
  refine rs_mod2 (M1 := dr1 M kn od w p) (M2 := md1 N kn w p) hR hc (fun k a b q1 q2 => by unfold dr1 drf; rw [if_neg (by omega), if_neg (by omega)]) (fun k a b q1 q2 => by unfold md1 mdf; rw [if_neg (by omega), if_neg (by omega)]) ?_
  have hss := dr1_s (kn := kn) (od := od) hc.1.2.1 hc.1.2.2.1
  refine ⟨hss, ?_, ?_, ?_, ?_, fun q hq => ?_, fun q hq => ?_, fun b hb => ?_⟩
  · rw [d, if_neg (by omega), if_neg (by omega)]; exact hn.1
  · rw [Nat.zero_add, d, if_neg (by omega), if_neg (by omega), c2 1 (by decide)]; exact hL.2.2.1
  · rw [Nat.zero_add, d, if_neg (by omega), if_neg (by omega)]; exact hn.2.1
  · rw [Nat.zero_add, d, if_neg (by omega), if_pos rfl]
    unfold dr1 drf
    rw [if_pos ⟨rfl, rfl, rfl⟩, bkR_at (by omega)]
  · rw [Nat.zero_add, d, c3]
    by_cases e : (q : Int) = dDr (M 2 0 2) / 65536 % ((2 * w - 1 : Nat) : Int)
    · rw [if_pos (by omega), if_pos e]
    · rw [if_neg (by omega), if_neg (by omega), if_neg e]; exact hL.1 q hq
  · rw [Nat.zero_add, d, if_neg (by omega), if_neg (by omega), c4]; exact hL.2.1 q hq
  · rw [Nat.zero_add, d]
    split
    · exact (modb (by omega)).1
    · split
      · omega
      · have := hg.2.2.2.2.2.2.2 b hb
        rw [Nat.zero_add] at this
        exact this
theorem rs_dN {w : Nat} {p : Int} : ∀ (n : Nat) {M N : fM} {kn od : Nat}, Rel2 M N → core M N w p kn od → Rel2 (drN n M kn od w p) (mdN n N kn w p) ∧ sg (drN n M kn od w p) 0 (mdN n N kn w p) 23 0 w p
  | 0, M, N, kn, od, hR, hc => ⟨hR, hc.2.1⟩
  | n + 1, M, N, kn, od, hR, hc => by
    have h := rs_d1 hR hc
    exact rs_dN n h.1 h.2
theorem mdf_hh {B M1 : fM} {w : Nat} {p : Int} (h : hiS B M1) : hiS (mdf B w p) (mdf M1 w p) := fun k a b hk => by
  unfold mdf
  rw [h 23 0 3 (by decide), h k a b hk]
theorem mdN_hh : ∀ (n : Nat) {B M1 : fM} {kn w : Nat} {p : Int}, hiS B M1 → hiS (mdN n B kn w p) (mdN n M1 kn w p)
  | 0, _, _, _, _, _, h => h
  | n + 1, B, M1, kn, w, p, h => mdN_hh n (mdf_hh (fun k a b hk => nt_hh h k a b hk))
theorem rs_drift {M M1 M2 : fM} {w : Nat} {p : Int} {kn od : Nat} {x z z' : Int} (hR : Rel M) (hc : core M M w p kn od)
    (h1 : (¬ (1 ≤ x ∧ x ≤ 40) ∧ z = -1 ∧ M1 = M) ∨ ((1 ≤ x ∧ x ≤ 40) ∧ z = dt w (eM (drN x.toNat M kn od w p) 0 w p) % p ∧ gS (drN x.toNat M kn od w p) M1 ∧ gI M1))
    (h2 : (¬ (1 ≤ x ∧ x ≤ 40) ∧ z' = -1 ∧ M2 = M1) ∨ ((1 ≤ x ∧ x ≤ 40) ∧ z' = dt w (eN (mdN x.toNat M1 kn w p) w p) % p ∧ mS (mdN x.toNat M1 kn w p) M2)) : z = z' ∧ Rel M2 := by
  rcases h1 with ⟨a0, rfl, rfl⟩ | ⟨a0, rfl, hS, hG⟩ <;> rcases h2 with ⟨b0, rfl, rfl⟩ | ⟨b0, rfl, hm⟩
  · exact ⟨rfl, hR⟩
  · exact absurd b0 a0
  · exact absurd a0 b0
  · have hh : hiS M M1 := hiS_t (hiS_dN x.toNat) (hiS_z (zS_g hS))
    have h := rs_dN x.toNat (Rel2_D hR hh) (core_D hc hh)
    exact ⟨by rw [dt_2 h.2 (Nat.le_refl w)], Rel_end (zfin h.1 hS hG hm) (loS_t (loS_dN x.toNat) (loS_m hm))⟩
theorem rs_undo {M M1 M2 : fM} {w : Nat} {p : Int} {kn od : Nat} {z z' : Int} (hR : Rel M) (hc : core M M w p kn od)
    (h1 : (kn = 0 ∧ z = -4 ∧ M1 = M) ∨ (0 < kn ∧ z = (kn : Int) - 1 ∧ M1 = bkS M kn od))
    (h2 : (kn = 0 ∧ z' = -4 ∧ M2 = M1) ∨ (0 < kn ∧ z' = (kn : Int) - 1 ∧ M2 = unS (fup M1 22 0 9 ((kn : Int) - 1)) (kn - 1) 21)) : z = z' ∧ Rel M2 := by
  rcases h1 with ⟨a0, rfl, rfl⟩ | ⟨a0, rfl, rfl⟩ <;> rcases h2 with ⟨b0, rfl, rfl⟩ | ⟨b0, rfl, rfl⟩
  · exact ⟨rfl, hR⟩
  · omega
  · omega
  · have hh : hiS M (bkS M kn od) := hiS_bs
    have hb := hc.2.2.1
    have hk8 := hb.2.2.1
    obtain ⟨w', hs⟩ := hc.2.2.2.2 (kn - 1) (by omega)
    have cS : ∀ k a b, k ≠ 1 → ¬ ((k = 2 ∨ k = 3 ∨ k = 4) ∧ a = 0) → bkS M kn od k a b = M k a b := fun k a b q1 q2 => by
      unfold bkS
      rw [if_neg (by omega), stk_off (by omega)]
    have dN : ∀ k a b, 22 ≤ k → ¬ (k = 22 ∧ a = 0 ∧ b = 9) → ¬ (k = 23 ∧ a = 0 ∧ b < 21) → unS (fup (bkS M kn od) 22 0 9 ((kn : Int) - 1)) (kn - 1) 21 k a b = M k a b := fun k a b q0 q1 q2 => by
      unfold unS
      rw [if_neg q2, fup_ne q1]
      exact hh k a b q0
    refine ⟨rfl, Rel_end (Rel_mod (w := w') (p := p) (kn := kn - 1) (od := od) hR hc.1.2.1 (fun k a b q1 q2 q3 => ?_) (fun k a b q1 q2 q3 q4 => dN k a b q1 (by omega) (by omega)) ?_ ?_ ⟨⟨?_, ?_, by omega, hb.2.2.2⟩, ?_, fun t ht => ?_⟩) (loS_t (loS_up (by decide)) loS_un)⟩
    · by_cases e : k = 1
      · unfold bkS
        rw [if_neg (by omega), stk_off (by omega)]
      · exact cS k a b e (by omega)
    · unfold bkS
      rw [if_neg (by omega), stk_off (by omega)]
      exact hc.1.1
    · refine sg_c hs (fun k b hk => ?_) (fun b hb => ?_)
      · unfold bkS
        rw [if_neg (by omega)]
        unfold stk
        rw [if_pos ⟨rfl, hk⟩]
      · rw [Nat.zero_add]
        unfold unS
        rw [if_pos ⟨rfl, rfl, hb⟩, fup_ne (by omega)]
        exact hh _ _ _ (by decide)
    · unfold bkS
      rw [if_pos ⟨rfl, rfl, rfl⟩]
      omega
    · unfold bkS
      rw [if_neg (by omega), stk_off (by omega)]
      exact hb.2.1
    · unfold unS
      rw [if_neg (by omega), fup_eq]
      omega
    · obtain ⟨w2, h⟩ := hc.2.2.2.2 t (by omega)
      exact ⟨w2, sg_c h (fun k b hk => cS k _ b (by omega) (by omega)) (fun b hb => dN 28 0 _ (by decide) (by omega) (by omega))⟩
theorem rs_seed {M M1 M2 : fM} {w : Nat} {p : Int} {kn od : Nat} {v z z' : Int} (hR : Rel M) (hc : core M M w p kn od) (hv : R32 v)
    (h1 : (v < 0 ∧ z = -1 ∧ M1 = M) ∨ (0 ≤ v ∧ z = M 2 0 2 ∧ M1 = fup M 2 0 2 v))
    (h2 : (v < 0 ∧ z' = -1 ∧ M2 = M1) ∨ (0 ≤ v ∧ z' = M1 23 0 3 ∧ M2 = fup M1 23 0 3 v)) : z = z' ∧ Rel M2 := by
  have hL := sg_L hc.2.1
  rcases h1 with ⟨a0, rfl, rfl⟩ | ⟨a0, rfl, rfl⟩ <;> rcases h2 with ⟨b0, rfl, rfl⟩ | ⟨b0, rfl, rfl⟩
  · exact ⟨rfl, hR⟩
  · omega
  · omega
  · have hg := hc.2.1
    obtain ⟨s1, s2, s3, s4, s5, s6⟩ := hg.1
    refine ⟨by rw [fup_ne (by omega)]; exact hL.2.2.2.symm, Rel_end (Rel_mod (C' := fup M 2 0 2 v) (D' := fup (fup M 2 0 2 v) 23 0 3 v) (w := w) (p := p) (kn := kn) (od := od) hR hc.1.2.1 (frC_up (by omega)) (fun k a b q1 q2 q3 q4 => by rw [fup_ne (by omega), fup_ne (by omega)]) ?_ (sg_now hg ⟨s1, s2, s3, s4, s5, by rw [fup_eq]; exact ⟨a0, hv.2⟩⟩ ?_ ?_ ?_ ?_ (fun q hq => ?_) (fun q hq => ?_) (fun b hb => ?_)) ⟨BkH_c hc.2.2.1 (fun b => fup_ne (by omega)), ?_, fun t ht => ?_⟩) (loS_up (by decide))⟩
    · rw [fup_ne (by omega)]; exact hc.1.1
    · rw [fup_ne (by omega), fup_ne (by omega)]; exact (nOk_of hc.1.2.1 hg).1
    · rw [fup_ne (by omega), fup_ne (by omega), fup_ne (by omega)]; exact hL.2.2.1
    · rw [fup_ne (by omega), fup_ne (by omega)]; exact (nOk_of hc.1.2.1 hg).2.1
    · rw [fup_eq, fup_eq]
    · rw [fup_ne (by omega), fup_ne (by omega), fup_ne (by omega)]; exact hL.1 q hq
    · rw [fup_ne (by omega), fup_ne (by omega), fup_ne (by omega)]; exact hL.2.1 q hq
    · by_cases e : b = 3
      · rw [e, fup_eq]; exact a0
      · rw [fup_ne (by omega), fup_ne (by omega)]; exact sg_nn hg b hb
    · rw [fup_ne (by omega), fup_ne (by omega)]; exact hc.2.2.2.1
    · obtain ⟨w2, h⟩ := hc.2.2.2.2 t ht
      exact ⟨w2, sg_c h (fun k b hk => fup_ne (by omega)) (fun b hb => by rw [fup_ne (by omega), fup_ne (by omega)])⟩
theorem rs_prime {M M1 M2 : fM} {w : Nat} {p : Int} {kn od : Nat} {q z z' : Int} (hR : Rel M) (hc : core M M w p kn od)
    (h1 : (¬ pOk q ∧ z = -1 ∧ M1 = M) ∨ (pOk q ∧ ((q = p ∧ z = -2 ∧ M1 = M) ∨ (q ≠ p ∧ z = p ∧ M1 = fup (lvO (fup M 1 0 0 q) 0 q (2 * w - 1) w) 1 0 1 0))))
    (h2 : (¬ pOk q ∧ z' = -1 ∧ M2 = M1) ∨ (pOk q ∧ ((q = p ∧ z' = -2 ∧ M2 = M1) ∨ (q ≠ p ∧ z' = p ∧ M2 = fup (mPc M1 q 21) 22 0 9 0)))) : z = z' ∧ Rel M2 := by
  have hL := sg_L hc.2.1
  rcases h1 with ⟨a0, rfl, rfl⟩ | ⟨a0, ⟨a1, rfl, rfl⟩ | ⟨a1, rfl, rfl⟩⟩ <;> rcases h2 with ⟨b0, rfl, rfl⟩ | ⟨b0, ⟨b1, rfl, rfl⟩ | ⟨b1, rfl, rfl⟩⟩
  · exact ⟨rfl, hR⟩
  · exact absurd b0 a0
  · exact absurd b0 a0
  · exact absurd a0 b0
  · exact ⟨rfl, hR⟩
  · exact absurd a1 b1
  · exact absurd a0 b0
  · exact absurd b1 a1
  · have hg := hc.2.1
    obtain ⟨s1, s2, s3, s4, s5, s6⟩ := hg.1
    have hq2 := a0.1
    have hh : hiS M (fup (lvO (fup M 1 0 0 q) 0 q (2 * w - 1) w) 1 0 1 0) := hiS_t (hiS_t (hiS_up (by decide)) hiS_lv) (hiS_up (by decide))
    have c2 : ∀ b, fup (lvO (fup M 1 0 0 q) 0 q (2 * w - 1) w) 1 0 1 0 2 0 b = M 2 0 b := fun b => by rw [fup_ne (by omega), lvO_off (by omega), fup_ne (by omega)]
    have c3 : ∀ j, j < 2 * w - 1 → fup (lvO (fup M 1 0 0 q) 0 q (2 * w - 1) w) 1 0 1 0 3 0 j = M 3 0 j % q := fun j hj => by
      rw [fup_ne (by omega)]
      unfold lvO
      rw [if_pos ⟨rfl, Or.inl ⟨rfl, hj⟩⟩, fup_ne (by omega)]
    have c4 : ∀ j, j < w → fup (lvO (fup M 1 0 0 q) 0 q (2 * w - 1) w) 1 0 1 0 4 0 j = M 4 0 j % q := fun j hj => by
      rw [fup_ne (by omega)]
      unfold lvO
      rw [if_pos ⟨rfl, Or.inr ⟨rfl, hj⟩⟩, fup_ne (by omega)]
    have d : ∀ b, fup (mPc (fup (lvO (fup M 1 0 0 q) 0 q (2 * w - 1) w) 1 0 1 0) q 21) 22 0 9 0 23 0 b = if b = 2 then q else if 4 ≤ b ∧ b < 21 then M 23 0 b % q else M 23 0 b := fun b => by
      rw [fup_ne (by omega)]
      unfold mPc
      rw [hh 23 0 b (by decide)]
      by_cases e : b = 2
      · rw [if_pos ⟨rfl, rfl, e⟩, if_pos e]
      · rw [if_neg (fun z => e z.2.2), if_neg e]
        by_cases e2 : 4 ≤ b ∧ b < 21
        · rw [if_pos ⟨rfl, rfl, e2⟩, if_pos e2]
        · rw [if_neg (fun z => e2 z.2.2), if_neg e2]
    refine ⟨rfl, Rel_end (Rel_mod (w := w) (p := q) (kn := 0) (od := od) hR a0 (fun k a b q1 q2 q3 => ?_) (fun k a b q1 q2 q3 q4 => ?_) ?_ (sg_nw ⟨by rw [c2]; exact s1, s2, by rw [c2]; exact s3, fun j hj => by rw [c3 j hj]; exact modb (by omega), fun j hj => by rw [c4 j hj]; exact modb (by omega), by rw [c2]; exact s6⟩ ?_ ?_ ?_ ?_ (fun j hj => ?_) (fun j hj => ?_) (fun b hb => ?_)) ⟨⟨?_, ?_, by omega, hc.2.2.1.2.2.2⟩, ?_, fun t ht => absurd ht (by omega)⟩) (loS_t loS_pc (loS_up (by decide)))⟩
    · rw [fup_ne (by omega), lvO_off (by omega), fup_ne (by omega)]
    · rw [fup_ne (by omega)]
      unfold mPc
      rw [if_neg (by omega), if_neg (by omega)]
      exact hh k a b q1
    · rw [fup_ne (by omega), lvO_off (by omega), fup_eq]
    · rw [d, if_neg (by omega), if_neg (by omega)]; exact (nOk_of hc.1.2.1 hg).1
    · rw [d, if_neg (by omega), if_neg (by omega), c2]; exact hL.2.2.1
    · rw [d, if_pos rfl]
    · rw [d, if_neg (by omega), if_neg (by omega), c2]; exact hL.2.2.2
    · rw [d, if_neg (by omega), if_pos (by omega), c3 j hj]
      exact congrArg (· % q) (hL.1 j hj)
    · rw [d, if_neg (by omega), if_pos (by omega), c4 j hj]
      exact congrArg (· % q) (hL.2.1 j hj)
    · rw [d]
      split
      · omega
      · split
        · exact (modb (by omega)).1
        · exact sg_nn hg b hb
    · rw [fup_eq]; rfl
    · rw [fup_ne (by omega), lvO_off (by omega), fup_ne (by omega)]; exact hc.2.2.1.2.1
    · rw [fup_eq]; rfl
