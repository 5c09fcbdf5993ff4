/-! ===== class and reference, side by side ===== -/
/-- a setting of the class against a row of 21 of the reference -/
def sg (C : fM) (i : Nat) (D : fM) (A c0 w : Nat) (p : Int) : Prop := sOk C i w p ∧ D A 0 c0 = (w : Int) ∧ D A 0 (c0 + 1) = C 2 i 1 ∧ D A 0 (c0 + 2) = p ∧ D A 0 (c0 + 3) = C 2 i 2 ∧ (∀ q, q < 2 * w - 1 → D A 0 (c0 + (4 + q)) = C 3 i q) ∧ (∀ q, q < w → D A 0 (c0 + (15 + q)) = C 4 i q) ∧ ∀ b, b < 21 → 0 ≤ D A 0 (c0 + b)
theorem sg_c {C C' D D' : fM} {i i' A A' c0 c0' w : Nat} {p : Int} (h : sg C i D A c0 w p) (hC : ∀ k b, ((k = 2 ∧ b < 3) ∨ (k = 3 ∧ b < 11) ∨ (k = 4 ∧ b < 6)) → C' k i' b = C k i b) (hD : ∀ b, b < 21 → D' A' 0 (c0' + b) = D A 0 (c0 + b)) : sg C' i' D' A' c0' w p := by
  obtain ⟨⟨s1, s2, s3, s4, s5, s6⟩, h1, h2, h3, h4, h5, h6, h7⟩ := h
  have d0 := hD 0 (by omega)
  rw [Nat.add_zero, Nat.add_zero] at d0
  refine ⟨⟨by rw [hC 2 0 (by omega)]; exact s1, s2, by rw [hC 2 1 (by omega)]; exact s3, fun q hq => by rw [hC 3 q (by omega)]; exact s4 q hq, fun q hq => by rw [hC 4 q (by omega)]; exact s5 q hq, by rw [hC 2 2 (by omega)]; exact s6⟩, by rw [d0]; exact h1, by rw [hD 1 (by omega), hC 2 1 (by omega)]; exact h2, by rw [hD 2 (by omega)]; exact h3, by rw [hD 3 (by omega), hC 2 2 (by omega)]; exact h4, fun q hq => by rw [hD _ (by omega), hC 3 q (by omega)]; exact h5 q hq, fun q hq => by rw [hD _ (by omega), hC 4 q (by omega)]; exact h6 q hq, fun b hb => by rw [hD b hb]; exact h7 b hb⟩
def pst (C D : fM) (p : Int) (kn od : Nat) : Prop := BkH C kn od ∧ D 22 0 9 = (kn : Int) ∧ ∀ t, t < kn → ∃ w', sg C (1 + (od + t) % 8) D 28 (21 * t) w' p
def core (C D : fM) (w : Nat) (p : Int) (kn od : Nat) : Prop := xOk C w p ∧ sg C 0 D 23 0 w p ∧ pst C D p kn od
def kpt (C D : fM) : Prop := (C 0 0 2 = 0 ∧ D 22 0 14 < 0) ∨ (C 0 0 2 = 1 ∧ ∃ w p kn od, pOk p ∧ C 1 1 0 = p ∧ C 1 1 1 = ((kn : Nat) : Int) ∧ C 1 1 3 = ((od : Nat) : Int) ∧ kn ≤ 8 ∧ od < 8 ∧ D 22 0 14 = ((kn : Nat) : Int) ∧ sg C 9 D 31 0 w p ∧ ∀ t, t < kn → ∃ w', sg C (10 + (od + t) % 8) D 32 (21 * t) w' p)
def tpR (C D : fM) : Prop := ∃ n : Nat, n ≤ 70 ∧ C 6 0 0 = (n : Int) ∧ D 22 0 5 = (n : Int) ∧ (∀ q, D 26 0 q = C 7 0 q) ∧ ∀ q, q < n → 32 ≤ C 7 0 q ∧ C 7 0 q ≤ 126
def shR (C D : fM) : Prop := ∀ s, s < 4 → (C 20 s 0 = -1 ∨ (0 ≤ C 20 s 0 ∧ C 20 s 0 ≤ 3)) ∧ D 33 0 s = C 20 s 0 ∧ (0 ≤ C 20 s 1 ∧ C 20 s 1 ≤ 24) ∧ (C 20 s 0 ≠ -1 → D 34 0 s = C 20 s 1) ∧ (0 ≤ D 34 0 s ∧ D 34 0 s ≤ 24) ∧ ∀ q, q < 24 → D 35 0 (24 * s + q) = C 21 s q
def Rel2 (C D : fM) : Prop := (∃ w p kn od, core C D w p kn od) ∧ kpt C D ∧ tpR C D ∧ shR C D ∧ WpOk C
abbrev Rel (M : fM) : Prop := Rel2 M M
/-- the class's own scratch -/
def zS (M M' : fM) : Prop := ∀ k a b, k ≠ 8 → k ≠ 10 → k ≠ 11 → k ≠ 12 → k ≠ 13 → k ≠ 14 → k ≠ 15 → k ≠ 16 → k ≠ 17 → k ≠ 18 → ¬ ((k = 2 ∨ k = 3 ∨ k = 4) ∧ (a = 18 ∨ a = 19 ∨ a = 20)) → ¬ (k = 6 ∧ (b = 3 ∨ b = 4 ∨ b = 5)) → M' k a b = M k a b
theorem zS_g {M N : fM} (h : gS M N) : zS M N := fun k a b q1 q2 q3 q4 _ _ _ _ _ _ _ _ => h k a b q1 q2 q3 q4
theorem zS_tt {M N : fM} (h : tS M N) : zS M N := fun k a b q1 q2 q3 q4 _ _ _ _ _ _ q5 _ => h k a b q1 q2 q3 q4 (by omega)
theorem zS_u {M N : fM} (h : uS M N) : zS M N := fun k a b q1 q2 q3 q4 _ _ _ q8 q9 q10 q5 _ => h k a b q1 q2 q3 q4 q8 q9 q10 (by omega)
theorem zS_v {M N : fM} (h : vS M N) : zS M N := fun k a b q1 q2 q3 q4 q5 q6 q7 _ _ _ q8 _ => h k a b q1 q2 q3 q4 q5 q6 q7 (by omega)
theorem zS_rd {M N : fM} (h : rdS M N) : zS M N := fun k a b _ _ _ _ _ _ _ _ _ _ q11 q12 => h k a b q12 (by omega)
theorem zS_r (M : fM) : zS M M := fun _ _ _ _ _ _ _ _ _ _ _ _ _ _ _ => rfl
theorem zS_at {M N : fM} (h : zS M N) {k a b : Nat} (hk : k = 0 ∨ k = 1 ∨ k = 7 ∨ k = 20 ∨ k = 21 ∨ 22 ≤ k) : N k a b = M k a b := h k a b (by omega) (by omega) (by omega) (by omega) (by omega) (by omega) (by omega) (by omega) (by omega) (by omega) (by omega) (by omega)
theorem zS_st {M N : fM} (h : zS M N) {k a b : Nat} (hk : k = 2 ∨ k = 3 ∨ k = 4) (ha : a < 18) : N k a b = M k a b := h k a b (by omega) (by omega) (by omega) (by omega) (by omega) (by omega) (by omega) (by omega) (by omega) (by omega) (by omega) (by omega)
theorem WpOk_c {M N : fM} (h : WpOk M) (e : ∀ k b, k = 13 ∨ k = 14 → N k 0 b = M k 0 b) (e2 : ∀ k b, k = 2 ∨ k = 3 → N k 20 b = M k 20 b) : WpOk N := by
  have e3 : N 3 20 = M 3 20 := funext fun b => e2 3 b (by omega)
  rcases h with h | ⟨w, pl, l, h1, h2, h3, h4, h5, h6⟩
  · left; rw [e 13 3 (by omega)]; exact h
  · right
    refine ⟨w, pl, l, by rw [e2 2 0 (by omega)]; exact h1, ?_⟩
    rw [e 13 3 (by omega), e2 2 1 (by omega)]
    exact ⟨by rw [e 13 2 (by omega)]; exact h2, by rw [e3]; exact h3, by rw [e3]; exact h4, fun v hv => by rw [e 14 v (by omega), e3]; exact h5 v hv, h6⟩
theorem mS_at {M N : fM} (h : mS M N) {k a b : Nat} (hk : k < 22 ∨ k = 23 ∨ k = 26 ∨ k = 28 ∨ k = 31 ∨ k = 32 ∨ k = 33 ∨ k = 34 ∨ k = 35 ∨ (k = 22 ∧ b ≠ 3 ∧ b ≠ 6)) : N k a b = M k a b := h k a b (by omega) (by omega) (by omega) (by omega) (by omega) (by omega) (by omega)
theorem sg_m {C C' D D' : fM} {i A c0 w : Nat} {p : Int} (hC : zS C C') (hD : mS D D') (hi : i < 18) (hA : A = 23 ∨ A = 28 ∨ A = 31 ∨ A = 32) (h : sg C i D A c0 w p) : sg C' i D' A c0 w p := sg_c h (fun k b hk => zS_st hC (by omega) hi) (fun b _ => mS_at hD (by omega))
theorem BkH_c {M N : fM} {kn od : Nat} (h : BkH M kn od) (e : ∀ b, N 1 0 b = M 1 0 b) : BkH N kn od := ⟨by rw [e]; exact h.1, by rw [e]; exact h.2.1, h.2.2⟩
/-- scratch changes nothing -/
theorem Rel_z {C C' D D' : fM} (h : Rel2 C D) (hC : zS C C') (hg : gI C') (hW : WpOk C') (hD : mS D D') : Rel2 C' D' := by
  obtain ⟨⟨w, p, kn, od, ⟨x1, x2, x3, x4⟩, g0, b1, b2, b3⟩, hk, ⟨n, n1, n2, n3, n4, n5⟩, hs, -⟩ := h
  have g0' := sg_m hC hD (by decide) (by omega) g0
  refine ⟨⟨w, p, kn, od, ⟨by rw [zS_at hC (by omega)]; exact x1, x2, g0'.1, hg⟩, g0', BkH_c b1 (fun b => zS_at hC (by omega)), by rw [mS_at hD (by omega)]; exact b2, fun t ht => ?_⟩, ?_, ⟨n, n1, ?_, by rw [mS_at hD (by omega)]; exact n3, fun q => ?_, fun q hq => ?_⟩, fun s hs4 => ?_, hW⟩
  · obtain ⟨w', h⟩ := b3 t ht
    exact ⟨w', sg_m hC hD (by omega) (by omega) h⟩
  · rcases hk with ⟨k1, k2⟩ | ⟨k1, w2, p2, kn2, od2, k2, k3, k4, k5, k6, k7, k8, k9, k10⟩
    · exact Or.inl ⟨by rw [zS_at hC (by omega)]; exact k1, by rw [mS_at hD (by omega)]; exact k2⟩
    · refine Or.inr ⟨by rw [zS_at hC (by omega)]; exact k1, w2, p2, kn2, od2, k2, by rw [zS_at hC (by omega)]; exact k3, by rw [zS_at hC (by omega)]; exact k4, by rw [zS_at hC (by omega)]; exact k5, k6, k7, by rw [mS_at hD (by omega)]; exact k8, sg_m hC hD (by decide) (by omega) k9, fun t ht => ?_⟩
      obtain ⟨w', h⟩ := k10 t ht
      exact ⟨w', sg_m hC hD (by omega) (by omega) h⟩
  · rw [hC 6 0 0 (by decide) (by decide) (by decide) (by decide) (by decide) (by decide) (by decide) (by decide) (by decide) (by decide) (by omega) (by omega)]; exact n2
  · rw [mS_at hD (by omega), zS_at hC (by omega)]; exact n4 q
  · rw [zS_at hC (by omega)]; exact n5 q hq
  · obtain ⟨s1, s2, s3, s4, s5, s6⟩ := hs s hs4
    exact ⟨by rw [zS_at hC (by omega)]; exact s1, by rw [mS_at hD (by omega), zS_at hC (by omega)]; exact s2, by rw [zS_at hC (by omega)]; exact s3, by rw [zS_at hC (by omega), mS_at hD (by omega), zS_at hC (by omega)]; exact s4, by rw [mS_at hD (by omega)]; exact s5, fun q hq => by rw [mS_at hD (by omega), zS_at hC (by omega)]; exact s6 q hq⟩
theorem Wp_z {C C' : fM} (hW : WpOk C) (h : ∀ k a b, (k = 13 ∨ k = 14 ∨ (k = 2 ∧ a = 20) ∨ (k = 3 ∧ a = 20)) → C' k a b = C k a b) : WpOk C' := WpOk_c hW (fun k b hk => h k 0 b (by omega)) (fun k b hk => h k 20 b (by omega))
/-- what of the stores counts on each side -/
theorem Rel_hl {C D N : fM} (h : Rel2 C D) (hc : ∀ k a b, k < 22 → N k a b = C k a b) (hd : ∀ k a b, 22 ≤ k → N k a b = D k a b) : Rel N := by
  have key : ∀ {i A c0 w : Nat} {p : Int}, 22 ≤ A → sg C i D A c0 w p → sg N i N A c0 w p := fun hA h => sg_c h (fun k b hk => hc k _ b (by omega)) (fun b _ => hd _ _ _ hA)
  obtain ⟨⟨w, p, kn, od, ⟨x1, x2, x3, x4⟩, g0, b1, b2, b3⟩, hk, ⟨n, n1, n2, n3, n4, n5⟩, hs, hW⟩ := h
  have g0' := key (by decide) g0
  refine ⟨⟨w, p, kn, od, ⟨by rw [hc _ _ _ (by decide)]; exact x1, x2, g0'.1, x4.choose, ?_⟩, g0', BkH_c b1 (fun b => hc _ _ _ (by decide)), by rw [hd _ _ _ (by decide)]; exact b2, fun t ht => ?_⟩, ?_, ⟨n, n1, by rw [hc _ _ _ (by decide)]; exact n2, by rw [hd _ _ _ (by decide)]; exact n3, fun q => ?_, fun q hq => ?_⟩, fun s hs4 => ?_, Wp_z hW (fun k a b hk => hc k a b (by omega))⟩
  · obtain ⟨q1, q2, q3⟩ := x4.choose_spec
    exact ⟨by rw [hc _ _ _ (by decide)]; exact q1, q2, fun a a1 a2 => by rw [hc _ _ _ (by decide)]; exact q3 a a1 a2⟩
  · obtain ⟨w', h⟩ := b3 t ht
    exact ⟨w', key (by decide) h⟩
  · rcases hk with ⟨k1, k2⟩ | ⟨k1, w2, p2, kn2, od2, k2, k3, k4, k5, k6, k7, k8, k9, k10⟩
    · exact Or.inl ⟨by rw [hc _ _ _ (by decide)]; exact k1, by rw [hd _ _ _ (by decide)]; exact k2⟩
    · refine Or.inr ⟨by rw [hc _ _ _ (by decide)]; exact k1, w2, p2, kn2, od2, k2, by rw [hc _ _ _ (by decide)]; exact k3, by rw [hc _ _ _ (by decide)]; exact k4, by rw [hc _ _ _ (by decide)]; exact k5, k6, k7, by rw [hd _ _ _ (by decide)]; exact k8, key (by decide) k9, fun t ht => ?_⟩
      obtain ⟨w', h⟩ := k10 t ht
      exact ⟨w', key (by decide) h⟩
  · rw [hd _ _ _ (by decide), hc _ _ _ (by decide)]; exact n4 q
  · rw [hc _ _ _ (by decide)]; exact n5 q hq
  · obtain ⟨s1, s2, s3, s4, s5, s6⟩ := hs s hs4
    exact ⟨by rw [hc _ _ _ (by decide)]; exact s1, by rw [hd _ _ _ (by decide), hc _ _ _ (by decide)]; exact s2, by rw [hc _ _ _ (by decide)]; exact s3, by rw [hc _ _ _ (by decide), hd _ _ _ (by decide), hc _ _ _ (by decide)]; exact s4, by rw [hd _ _ _ (by decide)]; exact s5, fun q hq => by rw [hd _ _ _ (by decide), hc _ _ _ (by decide)]; exact s6 q hq⟩
theorem nOk_of {C D : fM} {w : Nat} {p : Int} (hp : pOk p) (h : sg C 0 D 23 0 w p) : nOk D w p := by
  obtain ⟨⟨s1, s2, s3, s4, s5, s6⟩, h1, h2, h3, h4, h5, h6, h7⟩ := h
  rw [Nat.zero_add] at h2 h3 h4
  exact ⟨h1, h3, hp, s2, by rw [h2]; exact s3, fun q hq => by have := h5 q hq; rw [Nat.zero_add] at this; show 0 ≤ D 23 0 (4 + q) ∧ D 23 0 (4 + q) < p; rw [this]; exact s4 q hq, fun q hq => by have := h6 q hq; rw [Nat.zero_add] at this; show 0 ≤ D 23 0 (15 + q) ∧ D 23 0 (15 + q) < p; rw [this]; exact s5 q hq, by rw [h4]; exact s6⟩
theorem sg_L {C D : fM} {w : Nat} {p : Int} (h : sg C 0 D 23 0 w p) : (∀ q, q < 2 * w - 1 → lL D q = C 3 0 q) ∧ (∀ q, q < w → lS D q = C 4 0 q) ∧ D 23 0 1 = C 2 0 1 ∧ D 23 0 3 = C 2 0 2 := by
  obtain ⟨-, h1, h2, h3, h4, h5, h6, h7⟩ := h
  rw [Nat.zero_add] at h2 h4
  exact ⟨fun q hq => by have := h5 q hq; rw [Nat.zero_add] at this; exact this, fun q hq => by have := h6 q hq; rw [Nat.zero_add] at this; exact this, h2, h4⟩
/-! specs by the numbers alone -/
theorem ent_2 {C D : fM} {w : Nat} {p : Int} (h : sg C 0 D 23 0 w p) : ∀ i j, i < w → j < w → eN D w p i j = eM C 0 w p i j := fun i j hi hj => by
  have hL := sg_L h
  show ent p w (D 23 0 1) (lL D) i j = ent p w (C 2 0 1) (C 3 0) i j
  rw [hL.2.2.1]
  exact ent_congr hL.1 hi hj
theorem dt_2 {C D : fM} {w n : Nat} {p : Int} (h : sg C 0 D 23 0 w p) (hn : n ≤ w) : dt n (eN D w p) = dt n (eM C 0 w p) := dt_congr (fun i j hi hj => ent_2 h i j (by omega) (by omega))
theorem aug_2 {E E' : Nat → Nat → Int} {w : Nat} {s s' : Nat → Int} (hE : ∀ i j, i < w → j < w → E i j = E' i j) (hs : ∀ i, i < w → s i = s' i) : ∀ i j, i < w → j ≤ w → aug E w s i j = aug E' w s' i j := fun i j hi hj => by
  unfold aug
  split
  · exact hE i j hi (by omega)
  · exact hs i hi
theorem SolZ_c {p : Int} {w : Nat} {A B : Nat → Nat → Int} {z : Int} {a : Nat → Int} (e : ∀ i j, i < w → j ≤ w → A i j = B i j) (h : SolZ p w A z a) : SolZ p w B z a := by
  obtain ⟨k, ⟨h1, h2⟩ | ⟨h1, h2⟩⟩ := h
  · exact ⟨k, Or.inl ⟨h1, LSpec_congr e h2⟩⟩
  · exact ⟨k, Or.inr ⟨h1, LSpec_congr e h2⟩⟩
theorem Least_c {p : Int} {R u : Nat} {A B : Nat → Nat → Int} {a : Nat → Int} (e : ∀ i j, i < R → j ≤ u → A i j = B i j) (h : Least p R u A a) : Least p R u B a := ⟨h.1, (Ev_congr e a).mp h.2.1, fun y y1 y2 => h.2.2 y y1 ((Ev_congr e y).mpr y2)⟩
theorem lwA_c {L L' : Nat → Int} {n m : Nat} (e : ∀ q, q < n → L q = L' q) : ∀ i j, i < n - m → j ≤ m → lwA L m i j = lwA L' m i j := fun i j hi hj => by
  unfold lwA
  split
  · exact e _ (by omega)
  · exact e _ (by omega)
theorem LawS_c {p : Int} {L L' : Nat → Int} {n l : Nat} {a : Nat → Int} (e : ∀ q, q < n → L q = L' q) (h : LawS p L n l a) : LawS p L' n l a := ⟨h.1, fun m hm ⟨x, hx⟩ => h.2.1 m hm ⟨x, (Ev_congr (lwA_c e) x).mpr hx⟩, Least_c (lwA_c e) h.2.2⟩
theorem sqN_c {p : Int} {L L' : Nat → Int} {n l : Nat} {a a' : Nat → Int} (e : ∀ q, q < n → L q = L' q) (ha : ∀ c, c < l → a c = a' c) (hl : l ≤ n) : ∀ (k t : Nat), t < n + k → sqN p L n l a k t = sqN p L' n l a' k t
  | 0, t, h => e t (by omega)
  | k + 1, t, h => by
    show (if t = n + k then _ else _) = (if t = n + k then _ else _)
    split
    · rw [sm_congr (fun m hm => by rw [ha m hm, sqN_c e ha hl k (n + k - 1 - m) (by omega)])]
    · exact sqN_c e ha hl k t (by omega)
theorem cV_2 {C D : fM} {w : Nat} {p : Int} (h : sg C 0 D 23 0 w p) (k v : Nat) : cW D w p k v = cV C w p k v := by
  have hL := sg_L h
  unfold cW cV eW eV
  rw [hL.2.2.1]
  congr 1
  refine dt_congr (fun i j hi hj => ent_congr (fun q hq => ?_) hi hj)
  split
  · rfl
  · exact hL.1 q hq
theorem sst_c {f f' : Nat → Int} : ∀ {n : Nat}, (∀ k, k ≤ n → f k = f' k) → sst f n = sst f' n
  | 0, _ => rfl
  | n + 1, h => by
    unfold sst
    rw [sst_c (fun k hk => h k (by omega)), h (n + 1) (by omega)]
theorem Ev0_aug {p : Int} {w : Nat} {E : Nat → Nat → Int} {s s' x : Nat → Int} : Ev 0 p w w (aug E w s) x ↔ Ev 0 p w w (aug E w s') x := by
  have e : ∀ r, lf 0 w x (aug E w s r) = lf 0 w x (aug E w s' r) := fun r => by
    unfold lf
    rw [Int.zero_mul, Int.zero_mul, sm_congr (fun i hi => show aug E w s r i * x i = aug E w s' r i * x i by unfold aug; rw [if_pos hi, if_pos hi])]
  unfold Ev
  constructor
  · intro h r hr; rw [← e r]; exact h r hr
  · intro h r hr; rw [e r]; exact h r hr
theorem rank_same {p : Int} {w : Nat} {E : Nat → Nat → Int} {s s' : Nat → Int} {ok ok' : Prop} {k k' : Nat} {a a' : Nat → Int} (h : LSpec p w w (aug E w s) ok k a) (h' : LSpec p w w (aug E w s') ok' k' a') : k = k' := by
  obtain ⟨⟨t, t1, t2⟩, -, -⟩ := h
  obtain ⟨⟨t', t1', t2'⟩, -, -⟩ := h'
  rw [t2, t2']
  refine ctB_congr (fun i _ hi => ?_)
  have hF : Fr p w w (aug E w s) i ↔ Fr p w w (aug E w s') i := ⟨fun ⟨x, h1, h2⟩ => ⟨x, Ev0_aug.mp h1, h2⟩, fun ⟨x, h1, h2⟩ => ⟨x, Ev0_aug.mp h1, h2⟩⟩
  have q := (t1 i (by omega)).trans (hF.trans (t1' i (by omega)).symm)
  cases h1 : t i <;> cases h2 : t' i
  · rfl
  · rw [h1, h2] at q; exact absurd (q.mp rfl) (by decide)
  · rw [h1, h2] at q; exact absurd (q.mpr rfl) (by decide)
  · rfl
