/-! ===== one side's changes leave the other's places alone ===== -/
def hiS (M M1 : fM) : Prop := ∀ k a b, 22 ≤ k → M1 k a b = M k a b
def loS (M M1 : fM) : Prop := ∀ k a b, k < 22 → M1 k a b = M k a b
theorem hiS_r (M : fM) : hiS M M := fun _ _ _ _ => rfl
theorem loS_r (M : fM) : loS M M := fun _ _ _ _ => rfl
theorem hiS_t {M N L : fM} (h1 : hiS M N) (h2 : hiS N L) : hiS M L := fun k a b hk => (h2 k a b hk).trans (h1 k a b hk)
theorem loS_t {M N L : fM} (h1 : loS M N) (h2 : loS N L) : loS M L := fun k a b hk => (h2 k a b hk).trans (h1 k a b hk)
theorem hiS_z {M N : fM} (h : zS M N) : hiS M N := fun k a b hk => zS_at h (by omega)
theorem loS_m {M N : fM} (h : mS M N) : loS M N := fun k a b hk => mS_at h (by omega)
theorem hiS_up {M : fM} {k a b : Nat} {v : Int} (h : k < 22) : hiS M (fup M k a b v) := fun k' a' b' hk => fup_ne (by omega)
theorem loS_up {M : fM} {k a b : Nat} {v : Int} (h : 22 ≤ k) : loS M (fup M k a b v) := fun k' a' b' hk => fup_ne (by omega)
theorem hiS_bk {M : fM} {kn od : Nat} : hiS M (bkR M kn od) := fun k a b hk => bkR_k (by omega) (by omega) (by omega) (by omega)
theorem hiS_ad {M : fM} {w : Nat} : hiS M (adB M 0 w) := fun k a b hk => by
  unfold adB
  rw [if_neg (by omega), if_neg (by omega), if_neg (by omega)]
theorem hiS_dr {M : fM} {w : Nat} : hiS M (drB M 0 w) := fun k a b hk => by
  unfold drB
  rw [if_neg (by omega), if_neg (by omega)]
theorem hiS_rv {M : fM} {w : Nat} : hiS M (rvA M 0 w) := fun k a b hk => by
  unfold rvA
  rw [if_neg (by omega)]
theorem hiS_df {M : fM} {w : Nat} {p : Int} : hiS M (drf M 0 w p) := fun k a b hk => by
  unfold drf
  rw [if_neg (by omega), if_neg (by omega)]
theorem hiS_dN : ∀ (n : Nat) {M : fM} {kn od w : Nat} {p : Int}, hiS M (drN n M kn od w p)
  | 0, M, _, _, _, _ => hiS_r M
  | n + 1, M, kn, od, w, p => hiS_t (hiS_t hiS_bk hiS_df) (hiS_dN n)
theorem hiS_lv {M : fM} {p : Int} {n m : Nat} : hiS M (lvO M 0 p n m) := fun k a b hk => lvO_off (by omega)
theorem hiS_st {M : fM} {i o : Nat} : hiS M (stk M i o) := fun k a b hk => stk_off (by omega)
theorem hiS_bs {M : fM} {kn od : Nat} : hiS M (bkS M kn od) := fun k a b hk => by
  unfold bkS
  rw [if_neg (by omega)]
  exact stk_off (by omega)
theorem hiS_bt {M : fM} {b o n : Nat} : hiS M (bkT M b o n) := fun k a c hk => by
  unfold bkT
  rw [if_neg (by omega), if_neg (by omega)]
theorem hiS_sb {M : fM} {i : Nat} {la n : Int} {c : Nat} : hiS M (shB M i la n c) := fun k a b hk => by
  unfold shB
  repeat rw [if_neg (by omega)]
theorem hiS_cp {M : fM} {a b c d n : Nat} : hiS M (fcp M 21 a b 21 c d n) := fun k i j hk => by
  unfold fcp
  rw [if_neg (by omega)]
theorem hiS_ap {M : fM} {s o n : Nat} {v : Nat → Int} : hiS M (apM M s o n v) := fun k a b hk => apM_off (by omega)
theorem hiS_rd {M N : fM} (h : rdS M N) : hiS M N := fun k a b hk => h k a b (by omega) (by omega)
theorem loS_nt {M : fM} {kn : Nat} : loS M (nt M kn) := fun k a b hk => nt_ne (by omega) (by omega)
theorem loS_wd {M : fM} {w : Nat} : loS M (mWd M w) := fun k a b hk => by
  unfold mWd
  rw [if_neg (by omega)]
theorem loS_ct {M : fM} {w : Nat} : loS M (mCt M w) := fun k a b hk => by
  unfold mCt
  rw [if_neg (by omega)]
theorem loS_tn {M : fM} {w : Nat} : loS M (mTn M w) := fun k a b hk => by
  unfold mTn
  rw [if_neg (by omega)]
theorem loS_df {M : fM} {w : Nat} {p : Int} : loS M (mdf M w p) := fun k a b hk => by
  unfold mdf
  rw [if_neg (by omega), if_neg (by omega)]
theorem loS_dN : ∀ (n : Nat) {M : fM} {kn w : Nat} {p : Int}, loS M (mdN n M kn w p)
  | 0, M, _, _, _ => loS_r M
  | n + 1, M, kn, w, p => loS_t (loS_t loS_nt loS_df) (loS_dN n)
theorem loS_pc {M : fM} {q : Int} {c : Nat} : loS M (mPc M q c) := fun k a b hk => by
  unfold mPc
  rw [if_neg (by omega), if_neg (by omega)]
theorem loS_un {M : fM} {u c : Nat} : loS M (unS M u c) := fun k a b hk => by
  unfold unS
  rw [if_neg (by omega)]
theorem loS_im {M : fM} {c d : Nat} : loS M (imS M c d) := fun k a b hk => by
  unfold imS
  rw [if_neg (by omega), if_neg (by omega)]
theorem loS_re {M : fM} {c d : Nat} : loS M (reS M c d) := fun k a b hk => by
  unfold reS
  rw [if_neg (by omega), if_neg (by omega)]
theorem loS_sh {M : fM} {s : Nat} {la n : Int} {c : Nat} : loS M (mSh M s la n c) := fun k a b hk => by
  unfold mSh
  rw [if_neg (by omega), if_neg (by omega), if_neg (by omega)]
theorem loS_cp {M : fM} {o o2 n c : Nat} : loS M (mCp M o o2 n c) := fun k a b hk => by
  unfold mCp
  rw [if_neg (by omega), if_neg (by omega)]
theorem loS_ap {M : fM} {o n : Nat} {v : Nat → Int} : loS M (mAp M o n v) := fun k a b hk => mAp_off (by omega)
theorem loS_mx {M : fM} {tp : Nat → Int} {ln : Nat} {p : Int} : loS M (mMx M tp ln p) := fun k a b hk => by
  unfold mMx
  rw [if_neg (by omega), if_neg (by omega)]
theorem Rel_end {M1 M2 : fM} (h : Rel2 M1 M2) (hl : loS M1 M2) : Rel M2 := Rel_hl h hl (fun _ _ _ _ => rfl)
theorem nOk_hi {M M1 : fM} {w : Nat} {p : Int} (h : nOk M w p) (hh : hiS M M1) : nOk M1 w p := nOk_k h (fun b => hh 23 0 b (by decide))
/-! what is remembered -/
theorem pst_nt {M N C D : fM} {w : Nat} {p : Int} {kn od : Nat} (hg : sg M 0 N 23 0 w p) (hp : pst M N p kn od) (hC1 : C 1 0 1 = bkR M kn od 1 0 1) (hC3 : C 1 0 3 = bkR M kn od 1 0 3) (hC : ∀ k a b, (k = 2 ∨ k = 3 ∨ k = 4) → 1 ≤ a → a < 9 → C k a b = bkR M kn od k a b) (hD9 : D 22 0 9 = ((dkn kn : Nat) : Int)) (hD : ∀ c, c < 168 → D 28 0 c = nt N kn 28 0 c) : pst C D p (dkn kn) (dod kn od) := by
  obtain ⟨hb, h9, h28⟩ := hp
  have hb' := dr1_b (w := w) (p := p) hb
  have hkn := hb.2.2.1
  have hod := hb.2.2.2
  refine ⟨⟨hC1.trans hb'.1, hC3.trans hb'.2.1, hb'.2.2⟩, hD9, fun t ht => ?_⟩
  by_cases e : kn < 8
  · have ed : dkn kn = kn + 1 := by unfold dkn; rw [if_pos e]
    have eo : dod kn od = od := by unfold dod; rw [if_pos e]
    rw [eo]
    rw [ed] at ht
    by_cases et : t = kn
    · subst et
      refine ⟨w, sg_c hg (fun k b hk => ?_) (fun b hb => ?_)⟩
      · rw [hC k _ b (by omega) (by omega) (by omega)]
        unfold bkR
        rw [if_neg (by omega), if_neg (by omega)]
        unfold stk
        rw [if_pos ⟨rfl, hk⟩]
      · rw [hD _ (by omega), nt_a hkn hb, if_pos e, if_pos rfl, Nat.zero_add]
    · obtain ⟨w', h⟩ := h28 t (by omega)
      refine ⟨w', sg_c h (fun k b hk => ?_) (fun b hb => ?_)⟩
      · rw [hC k _ b (by omega) (by omega) (by omega)]
        unfold bkR
        rw [if_neg (by omega), if_neg (by omega), stk_off (by omega)]
      · rw [hD _ (by omega), nt_a hkn hb, if_pos e, if_neg et]
  · have ed : dkn kn = kn := by unfold dkn; rw [if_neg e]
    have eo : dod kn od = (od + 1) % 8 := by unfold dod; rw [if_neg e]
    rw [eo]
    rw [ed] at ht
    by_cases et : t = 7
    · subst et
      refine ⟨w, sg_c hg (fun k b hk => ?_) (fun b hb => ?_)⟩
      · rw [hC k _ b (by omega) (by omega) (by omega)]
        unfold bkR
        rw [if_neg (by omega), if_neg (by omega)]
        unfold stk
        rw [if_pos ⟨by omega, hk⟩]
      · rw [hD _ (by omega), nt_a hkn hb, if_neg e, if_pos rfl, Nat.zero_add]
    · obtain ⟨w', h⟩ := h28 (t + 1) (by omega)
      refine ⟨w', sg_c h (fun k b hk => ?_) (fun b hb => ?_)⟩
      · rw [hC k _ b (by omega) (by omega) (by omega)]
        unfold bkR
        rw [if_neg (by omega), if_neg (by omega), stk_off (by omega), show 1 + ((od + 1) % 8 + t) % 8 = 1 + (od + (t + 1)) % 8 by omega]
      · rw [hD _ (by omega), nt_a hkn hb, if_neg e, if_neg et, if_pos (by omega)]
/-- what a change of the setting leaves as it was -/
def frC (C C' : fM) : Prop := ∀ k a b, k < 22 → ¬ (k = 1 ∧ a = 0) → ¬ ((k = 2 ∨ k = 3 ∨ k = 4) ∧ a < 9) → C' k a b = C k a b
def frD (D D' : fM) : Prop := ∀ k a b, 22 ≤ k → k ≠ 23 → k ≠ 28 → ¬ (k = 22 ∧ b = 9) → D' k a b = D k a b
theorem Rel_mod {C D C' D' : fM} {w : Nat} {p : Int} {kn od : Nat} (h : Rel2 C D) (hp : pOk p) (hC : frC C C') (hD : frD D D') (h1 : C' 1 0 0 = p) (hs : sg C' 0 D' 23 0 w p) (hq : pst C' D' p kn od) : Rel2 C' D' := by
  obtain ⟨⟨w0, p0, kn0, od0, ⟨x1, x2, x3, x4⟩, g0, b0⟩, hk, ⟨n, n1, n2, n3, n4, n5⟩, hsh, hW⟩ := h
  have key : ∀ {i A c0 w : Nat} {p : Int}, 9 ≤ i → (A = 31 ∨ A = 32) → sg C i D A c0 w p → sg C' i D' A c0 w p := fun hi hA h => sg_c h (fun k b hk => hC k _ b (by omega) (by omega) (by omega)) (fun b _ => hD _ _ _ (by omega) (by omega) (by omega) (by omega))
  refine ⟨⟨w, p, kn, od, ⟨h1, hp, hs.1, x4.choose, ?_⟩, hs, hq⟩, ?_, ⟨n, n1, by rw [hC _ _ _ (by decide) (by omega) (by omega)]; exact n2, by rw [hD _ _ _ (by decide) (by decide) (by decide) (by omega)]; exact n3, fun q => ?_, fun q hq => ?_⟩, fun s hs4 => ?_, Wp_z hW (fun k a b hk => hC k a b (by omega) (by omega) (by omega))⟩
  · obtain ⟨q1, q2, q3⟩ := x4.choose_spec
    exact ⟨by rw [hC _ _ _ (by decide) (by omega) (by omega)]; exact q1, q2, fun a a1 a2 => by rw [hC _ _ _ (by decide) (by omega) (by omega)]; exact q3 a a1 a2⟩
  · rcases hk with ⟨k1, k2⟩ | ⟨k1, w2, p2, kn2, od2, k2, k3, k4, k5, k6, k7, k8, k9, k10⟩
    · exact Or.inl ⟨by rw [hC _ _ _ (by decide) (by omega) (by omega)]; exact k1, by rw [hD _ _ _ (by decide) (by decide) (by decide) (by omega)]; exact k2⟩
    · refine Or.inr ⟨by rw [hC _ _ _ (by decide) (by omega) (by omega)]; exact k1, w2, p2, kn2, od2, k2, by rw [hC _ _ _ (by decide) (by omega) (by omega)]; exact k3, by rw [hC _ _ _ (by decide) (by omega) (by omega)]; exact k4, by rw [hC _ _ _ (by decide) (by omega) (by omega)]; exact k5, k6, k7, by rw [hD _ _ _ (by decide) (by decide) (by decide) (by omega)]; exact k8, key (by decide) (by omega) k9, fun t ht => ?_⟩
      obtain ⟨w', h⟩ := k10 t ht
      exact ⟨w', key (by omega) (by omega) h⟩
  · rw [hD _ _ _ (by decide) (by decide) (by decide) (by omega), hC _ _ _ (by decide) (by omega) (by omega)]; exact n4 q
  · rw [hC _ _ _ (by decide) (by omega) (by omega)]; exact n5 q hq
  · obtain ⟨s1, s2, s3, s4, s5, s6⟩ := hsh s hs4
    have e20 : ∀ b, C' 20 s b = C 20 s b := fun b => hC _ _ _ (by decide) (by omega) (by omega)
    have e21 : ∀ b, C' 21 s b = C 21 s b := fun b => hC _ _ _ (by decide) (by omega) (by omega)
    have ed : ∀ k b, k = 33 ∨ k = 34 ∨ k = 35 → D' k 0 b = D k 0 b := fun k b hk => hD _ _ _ (by omega) (by omega) (by omega) (by omega)
    exact ⟨by rw [e20]; exact s1, by rw [ed 33 _ (by omega), e20]; exact s2, by rw [e20]; exact s3, by rw [e20, ed 34 _ (by omega), e20]; exact s4, by rw [ed 34 _ (by omega)]; exact s5, fun q hq => by rw [ed 35 _ (by omega), e21]; exact s6 q hq⟩
theorem frC_bk {M : fM} {kn od : Nat} : frC M (bkR M kn od) := fun k a b h1 h2 h3 => by
  unfold bkR
  rw [if_neg (by omega), if_neg (by omega), stk_off (by omega)]
theorem frC_t {M N L : fM} (h1 : frC M N) (h2 : frC N L) : frC M L := fun k a b q1 q2 q3 => (h2 k a b q1 q2 q3).trans (h1 k a b q1 q2 q3)
theorem frD_t {M N L : fM} (h1 : frD M N) (h2 : frD N L) : frD M L := fun k a b q1 q2 q3 q4 => (h2 k a b q1 q2 q3 q4).trans (h1 k a b q1 q2 q3 q4)
theorem frC_up {M : fM} {k b : Nat} {v : Int} (h : k = 2 ∨ k = 3 ∨ k = 4) : frC M (fup M k 0 b v) := fun k' a' b' q1 q2 q3 => fup_ne (by omega)
theorem frD_up {M : fM} {b : Nat} {v : Int} : frD M (fup M 23 0 b v) := fun k' a' b' q1 q2 q3 q4 => fup_ne (by omega)
theorem frD_nt {M : fM} {kn : Nat} : frD M (nt M kn) := fun k a b q1 q2 q3 q4 => nt_ne q3 (by omega)
theorem frD_hi {M M1 : fM} (h : hiS M M1) : frD M M1 := fun k a b q1 _ _ _ => h k a b q1
theorem nt_hi {M M1 : fM} {kn : Nat} (h : hiS M M1) (hk8 : kn ≤ 8) : ∀ c, c < 168 → nt M1 kn 28 0 c = nt M kn 28 0 c := fun c hc => by
  rw [show c = 21 * (c / 21) + c % 21 by omega, nt_a hk8 (by omega), nt_a hk8 (by omega), h 23 _ _ (by decide), h 28 _ _ (by decide), h 28 _ _ (by decide)]
theorem sg_nw {C D : fM} {w' : Nat} {p : Int} (hs : sOk C 0 w' p) (h0 : D 23 0 0 = (w' : Int)) (h1 : D 23 0 1 = C 2 0 1) (h2 : D 23 0 2 = p) (h3 : D 23 0 3 = C 2 0 2) (h4 : ∀ q, q < 2 * w' - 1 → D 23 0 (4 + q) = C 3 0 q) (h5 : ∀ q, q < w' → D 23 0 (15 + q) = C 4 0 q) (h6 : ∀ b, b < 21 → 0 ≤ D 23 0 b) : sg C 0 D 23 0 w' p := by
  refine ⟨hs, h0, ?_, ?_, ?_, fun q hq => ?_, fun q hq => ?_, fun b hb => ?_⟩
  · rw [Nat.zero_add]; exact h1
  · rw [Nat.zero_add]; exact h2
  · rw [Nat.zero_add]; exact h3
  · rw [Nat.zero_add]; exact h4 q hq
  · rw [Nat.zero_add]; exact h5 q hq
  · rw [Nat.zero_add]; exact h6 b hb
theorem sg_now {M C D : fM} {w w' : Nat} {p : Int} (_ : sg M 0 M 23 0 w p) (hs : sOk C 0 w' p) (h0 : D 23 0 0 = (w' : Int)) (h1 : D 23 0 1 = C 2 0 1) (h2 : D 23 0 2 = p) (h3 : D 23 0 3 = C 2 0 2) (h4 : ∀ q, q < 2 * w' - 1 → D 23 0 (4 + q) = C 3 0 q) (h5 : ∀ q, q < w' → D 23 0 (15 + q) = C 4 0 q) (h6 : ∀ b, b < 21 → 0 ≤ D 23 0 b) : sg C 0 D 23 0 w' p := sg_nw hs h0 h1 h2 h3 h4 h5 h6
