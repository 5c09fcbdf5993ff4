/-! ===== small helps ===== -/
section FA
variable {g : fG} {Y : fY} {pc : Nat} {ls : List (Option fV)} {st : List fV} {M : fM} {Q : Option fV → fM → Prop}
theorem fAt_m {M' : fM} (h : M = M') (kk : fAt g Y pc ls st M' Q) : fAt g Y pc ls st M Q := h ▸ kk
theorem fAt_v {x x' : Int} (h : x = x') (kk : fAt g Y pc ls (vi x' :: st) M Q) : fAt g Y pc ls (vi x :: st) M Q := h ▸ kk
theorem fAt_vl {x x' : Int} (h : x = x') (kk : fAt g Y pc ls (vl x' :: st) M Q) : fAt g Y pc ls (vl x :: st) M Q := h ▸ kk
theorem fAt_ls {ls' : List (Option fV)} (h : ls = ls') (kk : fAt g Y pc ls' st M Q) : fAt g Y pc ls st M Q := h ▸ kk
theorem fAt_q {Q' : Option fV → fM → Prop} (h : ∀ r M', Q' r M' → Q r M') (kk : fAt g Y pc ls st M Q') : fAt g Y pc ls st M Q := by
  intro hR p e s m args below meth c H locs ar hE hP hS hl T hT X
  obtain ⟨t, a1, o, b1, b2, ⟨⟨r, M', c1, c2, c3⟩, c4⟩, b4⟩ := kk hR p e s m args below meth c H locs ar hE hP hS hl T hT X
  exact ⟨t, a1, o, b1, b2, ⟨⟨r, M', c1, h r M' c2, c3⟩, c4⟩, b4⟩
end FA
theorem fCi_of {g : fG} {Y : fY} {M : fM} {P : Int → fM → Prop} (av : List fV) (ls : List (Option fV)) (hy : plainName Y.1.cls = true) (hn : (lg_sl (av.map (fMv g))).length ≤ Y.2.2.1) (hl : lv_args 0 (av.map (fMv g)) = fas g 0 ls) (hr : fRs av → fRl ls) (h : fAt g Y 0 ls [] M (fI P)) : fCi g Y av M P := fCt_of av ls hy hn hl hr h
theorem fCl_of {g : fG} {Y : fY} {M : fM} {P : Int → fM → Prop} (av : List fV) (ls : List (Option fV)) (hy : plainName Y.1.cls = true) (hn : (lg_sl (av.map (fMv g))).length ≤ Y.2.2.1) (hl : lv_args 0 (av.map (fMv g)) = fas g 0 ls) (hr : fRs av → fRl ls) (h : fAt g Y 0 ls [] M (fL P)) : fCl g Y av M P := fCt_of av ls hy hn hl hr h
theorem fCv_of {g : fG} {Y : fY} {M : fM} {P : fM → Prop} (av : List fV) (ls : List (Option fV)) (hy : plainName Y.1.cls = true) (hn : (lg_sl (av.map (fMv g))).length ≤ Y.2.2.1) (hl : lv_args 0 (av.map (fMv g)) = fas g 0 ls) (hr : fRs av → fRl ls) (h : fAt g Y 0 ls [] M (fN P)) : fCv g Y av M P := fCt_of av ls hy hn hl hr h
theorem mulb {x y a b : Int} (hx : 0 ≤ x) (hy : 0 ≤ y) (ha : x ≤ a) (hb : y ≤ b) : 0 ≤ x * y ∧ x * y ≤ a * b := ⟨Int.mul_nonneg hx hy, Int.mul_le_mul ha hb hy (by omega)⟩
theorem modb {x p : Int} (hp : 0 < p) : 0 ≤ x % p ∧ x % p < p := ⟨Int.emod_nonneg x (by omega), Int.emod_lt_of_pos x hp⟩
theorem fup_eq {M : fM} {k i j : Nat} {v : Int} : fup M k i j v k i j = v := by simp [fup]
theorem fup_ne {M : fM} {k i j : Nat} {v : Int} {a b c : Nat} (h : ¬ (a = k ∧ b = i ∧ c = j)) : fup M k i j v a b c = M a b c := by unfold fup; rw [if_neg h]
