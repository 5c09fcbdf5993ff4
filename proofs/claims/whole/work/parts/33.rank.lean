/-! ===== the rank, and the determinant ===== -/
theorem inv_ex {p : Int} (hp : pOk p) : ∀ (n a : Nat), a ≤ n → 1 ≤ a → (a : Int) < p → ∃ b, 0 ≤ b ∧ b < p ∧ ((a : Int) * b) % p = 1
  | 0, a, h, h1, _ => absurd h1 (by omega)
  | n + 1, a, h, h1, h2 => by
    have hp2 := hp.1
    by_cases e : a = 1
    · subst e
      exact ⟨1, by omega, by omega, by rw [Int.natCast_one, Int.one_mul, Int.emod_eq_of_lt (by omega) (by omega)]⟩
    · have hm := modb (x := p) (p := (a : Int)) (by omega)
      have hne := hp.2 a (by omega) h2
      have hnat : (((p % (a : Int)).toNat : Nat) : Int) = p % (a : Int) := Int.toNat_of_nonneg hm.1
      obtain ⟨x, -, -, hx⟩ := inv_ex hp n (p % (a : Int)).toNat (by omega) (by omega) (by omega)
      exact ⟨((p - p / (a : Int)) * x) % p, (modb (by omega)).1, (modb (by omega)).2, inv_s hnat.symm hx⟩
theorem inv_of {p x : Int} (hp : pOk p) (h0 : 0 ≤ x) (h1 : x < p) (hn : x ≠ 0) : ∃ b, 0 ≤ b ∧ b < p ∧ (x * b) % p = 1 := by
  obtain ⟨b, b1, b2, b3⟩ := inv_ex hp x.toNat x.toNat (Nat.le_refl _) (by omega) (by omega)
  rw [Int.toNat_of_nonneg h0] at b3
  exact ⟨b, b1, b2, b3⟩
theorem dt_row0 {n s : Nat} {A : Nat → Nat → Int} (hs : s < n) (h : ∀ j, j < n → A s j = 0) : dt n A = 0 := by
  have e : dt n A = dt n (rep s (fun j => 0 + 1 * 0) A) := dt_congr (fun i j hi hj => by
    unfold rep
    by_cases q : i = s
    · rw [if_pos q, q, h j hj]; rfl
    · rw [if_neg q])
  have e2 := dt_lin (n := n) (s := s) (fun _ => 0) (fun _ => 0) 1 A hs
  have e3 : (fun _ : Nat => (0 : Int) + 1 * 0) = fun _ => 0 := by funext j; rfl
  rw [e3] at e
  rw [show (fun j : Nat => (0 : Int) + 1 * (fun _ => 0) j) = fun _ => 0 by funext j; rfl] at e2
  omega
theorem dt_scale {n s : Nat} {A : Nat → Nat → Int} (v : Int) (hs : s < n) : dt n (rep s (fun j => v * A s j) A) = v * dt n A := by
  have e := dt_lin (n := n) (s := s) (fun _ => 0) (A s) v A hs
  have e0 : dt n (rep s (fun _ => 0) A) = 0 := dt_row0 hs (fun j _ => by unfold rep; rw [if_pos rfl])
  have e1 : rep s (A s) A = A := by
    funext i
    unfold rep
    by_cases q : i = s
    · rw [if_pos q, q]
    · rw [if_neg q]
  rw [e0, e1, Int.zero_add] at e
  rw [← e]
  congr 1
  congr 1
  funext j
  show v * A s j = 0 + v * A s j
  rw [Int.zero_add]
theorem dtz_tk {p : Int} {u s r : Nat} {t : Int} {C : Nat → Nat → Int} (hs : s < u) (hr : r < u) (hne : s ≠ r) : dt u (rTk p C s r t 0 (u + 1)) % p = dt u C % p := by
  rw [← dt_addrow (n := u) (s := s) (r := r) (p - t) C hs hr hne]
  refine dt_mod (fun i j hi hj => ?_)
  unfold rep
  by_cases e : i = s
  · rw [if_pos e, e, rTk_at (Nat.zero_le _) (by omega), Int.emod_emod]
  · rw [if_neg e, rTk_ne (fun q => e q.1)]
theorem dtz_sc {p : Int} {u s : Nat} {v w : Int} {C : Nat → Nat → Int} (hs : s < u) (hv : (w * v) % p = 1) : dt u (rSc p C s v (u + 1)) % p = 0 ↔ dt u C % p = 0 := by
  have e : dt u (rSc p C s v (u + 1)) % p = (v * dt u C) % p := by
    rw [← dt_scale v hs]
    refine dt_mod (fun i j hi hj => ?_)
    unfold rep
    by_cases q : i = s
    · rw [if_pos q, q, rSc_at (by omega), Int.emod_emod, Int.mul_comm]
    · rw [if_neg q, rSc_ne (fun z => q z.1)]
  rw [e]
  constructor
  · intro h
    have h2 : (w * (v * dt u C)) % p = 0 := by rw [← mem', h, Int.mul_zero, Int.zero_emod]
    rw [← Int.mul_assoc, ← emm, hv, Int.one_mul] at h2
    exact h2
  · intro h
    rw [← mem', h, Int.mul_zero, Int.zero_emod]
theorem clr_ex {p : Int} {R u : Nat} {C : Nat → Nat → Int} {k c : Nat} {D0 : Nat → Nat → Int} (hp : 2 ≤ p) (hk : k < R) (hc : c < u + 1) (h : clP p R u C k c D0) : ∀ n, n ≤ R → ∃ D, clP p R u C k c D ∧ (∀ i, i < n → i ≠ k → D i c = 0) ∧ (R = u → (dt u D % p = dt u D0 % p))
  | 0, _ => ⟨D0, h, fun i hi => absurd hi (by omega), fun _ => rfl⟩
  | n + 1, hn => by
    obtain ⟨D, h1, h2, h3⟩ := clr_ex hp hk hc h n (by omega)
    by_cases e : n = k
    · exact ⟨D, h1, fun i hi hne => h2 i (by omega) hne, h3⟩
    · refine ⟨rTk p D n k (D n c) 0 (u + 1), clP_tk hp hk (by omega) e h1, fun i hi hne => ?_, fun hR => ?_⟩
      · by_cases q : i = n
        · rw [q]; exact clP_0 hp hc h1
        · rw [rTk_ne (fun z => q z.1)]; exact h2 i (by omega) hne
      · rw [dtz_tk (by omega) (by omega) e]; exact h3 hR
theorem El_ex {p : Int} {R u : Nat} {A : Nat → Nat → Int} (hp : pOk p) (hA : ∀ i j, i < R → j < u + 1 → 0 ≤ A i j ∧ A i j < p) : ∀ m, m ≤ u → ∃ C k T, El p R u A (u - m) C k T ∧ (R = u → (dt u C % p = 0 ↔ dt u A % p = 0))
  | 0, _ => ⟨A, 0, fun _ => none, El_0 hA _, fun _ => Iff.rfl⟩
  | m + 1, hm => by
    obtain ⟨C, k, T, hE, hd⟩ := El_ex hp hA m (by omega)
    have hp2 := hp.1
    rw [show u - m = (u - (m + 1)) + 1 by omega] at hE
    by_cases hex : ∃ r, k ≤ r ∧ r < R ∧ C r (u - (m + 1)) ≠ 0
    · obtain ⟨r, r1, r2, r3⟩ := hex
      have h1 : ∃ C1, (∀ i j, i < R → j < u + 1 → 0 ≤ C1 i j ∧ C1 i j < p) ∧ (∀ β y, Ev β p R u C1 y ↔ Ev β p R u C y) ∧ (∀ i d, i < R → u - (m + 1) < d → d < u → C1 i d = C i d) ∧ C1 k (u - (m + 1)) ≠ 0 ∧ (R = u → dt u C1 % p = dt u C % p) := by
        by_cases e : C k (u - (m + 1)) = 0
        · have hrk : r ≠ k := fun q => r3 (by rw [q]; exact e)
          refine ⟨rTk p C k r (p - 1) 0 (u + 1), rTk_rng (by omega) hE.1, fun β y => Ev_tk (by omega) r2 (Ne.symm hrk) y, fun i d hi h1 h2 => ?_, ?_, fun hR => dtz_tk (by omega) (by omega) (Ne.symm hrk)⟩
          · by_cases q : i = k
            · rw [q, rTk_at (Nat.zero_le _) (by omega), hE.2.2.2.2.2.1 k (Nat.le_refl k) (by omega) d (by omega) h2, hE.2.2.2.2.2.1 r r1 r2 d (by omega) h2, Int.mul_zero]
              exact Int.zero_emod p
            · exact rTk_ne (fun z => q z.1)
          · have hrc := hE.1 r (u - (m + 1)) r2 (by omega)
            rw [rTk_at (Nat.zero_le _) (by omega), e, show p - (p - 1) = 1 by omega, Int.one_mul, Int.zero_add, Int.emod_eq_of_lt hrc.1 hrc.2]
            exact r3
        · exact ⟨C, hE.1, fun _ _ => Iff.rfl, fun _ _ _ _ _ => rfl, e, fun _ => rfl⟩
      obtain ⟨C1, a1, a2, a3, a4, a5⟩ := h1
      have hkc := a1 k (u - (m + 1)) (by omega) (by omega)
      obtain ⟨sc, s1, s2, s3⟩ := inv_of hp hkc.1 hkc.2 a4
      obtain ⟨D, d1, d2, d3⟩ := clr_ex (by omega) (by omega) (by omega) (clP_sc (by omega) (by omega : k < R) (by omega : u - (m + 1) < u + 1) a1 s3) R (Nat.le_refl R)
      refine ⟨D, k + 1, fun d => if d = u - (m + 1) then some k else T d, El_some (by omega) hE (by omega) d1.1 (fun β y => (d1.2.1 β y).trans (a2 β y)) d1.2.2.1 (fun i hi hne => d2 i hi hne) (fun i d hi h1 h2 => ?_) (if_pos rfl) (fun d h1 h2 => if_neg (by omega)), fun hR => ?_⟩
      · rw [d1.2.2.2 i d hi (by omega) (by rw [a3 k d (by omega) h1 h2]; exact hE.2.2.2.2.2.1 k (Nat.le_refl k) (by omega) d (by omega) h2)]
        exact a3 i d hi h1 h2
      · rw [d3 hR]
        exact (dtz_sc (by omega) s3).trans ((by rw [a5 hR] : dt u C1 % p = 0 ↔ dt u C % p = 0).trans (hd hR))
    · refine ⟨C, k, fun d => if d = u - (m + 1) then none else T d, El_none (by omega) hE (fun r r1 r2 => Classical.byContradiction (fun q => hex ⟨r, r1, r2, q⟩)) (if_pos rfl) (fun d h1 h2 => if_neg (by omega)), hd⟩
theorem sgn_pm : ∀ n : Nat, sgn n = 1 ∨ sgn n = -1
  | 0 => Or.inl rfl
  | n + 1 => by
    show - sgn n = 1 ∨ - sgn n = -1
    rcases sgn_pm n with h | h <;> omega
theorem dt_perm : ∀ (n : Nat) (A : Nat → Nat → Int) (σ : Nat → Nat), (∀ c, c < n → σ c < n) → (∀ c d, c < n → d < n → σ c = σ d → c = d) → (∀ i c, i < n → c < n → A i c = if i = σ c then 1 else 0) → dt n A = 1 ∨ dt n A = -1
  | 0, _, _, _, _, _ => Or.inl rfl
  | n + 1, A, σ, h1, h2, h3 => by
    rw [dt_succ, sm_one (a := σ 0) (h1 0 (by omega)) (fun i hi hne => by rw [h3 i 0 hi (by omega), if_neg hne, Int.mul_zero, Int.zero_mul]), h3 (σ 0) 0 (h1 0 (by omega)) (by omega), if_pos rfl, Int.mul_one]
    have ih := dt_perm n (mnr (σ 0) A) (fun b => if σ (b + 1) < σ 0 then σ (b + 1) else σ (b + 1) - 1) (fun c hc => by
      have q1 := h1 (c + 1) (by omega)
      have q2 := h1 0 (by omega)
      have q3 : σ (c + 1) ≠ σ 0 := fun z => by have := h2 (c + 1) 0 (by omega) (by omega) z; omega
      show (if σ (c + 1) < σ 0 then σ (c + 1) else σ (c + 1) - 1) < n
      split <;> omega) (fun c d hc hd e => by
      have q3 : σ (c + 1) ≠ σ 0 := fun z => by have := h2 (c + 1) 0 (by omega) (by omega) z; omega
      have q4 : σ (d + 1) ≠ σ 0 := fun z => by have := h2 (d + 1) 0 (by omega) (by omega) z; omega
      have e : (if σ (c + 1) < σ 0 then σ (c + 1) else σ (c + 1) - 1) = (if σ (d + 1) < σ 0 then σ (d + 1) else σ (d + 1) - 1) := e
      have e2 : σ (c + 1) = σ (d + 1) := by
        revert e
        split <;> split <;> omega
      have := h2 (c + 1) (d + 1) (by omega) (by omega) e2
      omega) (fun i c hi hc => by
      have q3 : σ (c + 1) ≠ σ 0 := fun z => by have := h2 (c + 1) 0 (by omega) (by omega) z; omega
      show A (if i < σ 0 then i else i + 1) (c + 1) = if i = (if σ (c + 1) < σ 0 then σ (c + 1) else σ (c + 1) - 1) then 1 else 0
      rw [h3 _ (c + 1) (mnr_lt (h1 0 (by omega)) hi) (by omega)]
      by_cases e : (if i < σ 0 then i else i + 1) = σ (c + 1)
      · rw [if_pos e, if_pos]
        revert e
        split <;> split <;> omega
      · rw [if_neg e, if_neg]
        revert e
        split <;> split <;> omega)
    rcases sgn_pm (σ 0) with q | q <;> rcases ih with z | z <;> rw [q, z] <;> decide
theorem ctB_all {f : Nat → Bool} : ∀ {n c : Nat}, ctB f c n = n → ∀ i, c ≤ i → i < c + n → f i = true
  | 0, c, _, i, h1, h2 => absurd h2 (by omega)
  | n + 1, c, h, i, h1, h2 => by
    have h : (if f c then 1 else 0) + ctB f (c + 1) n = n + 1 := h
    have hle := ctB_le f n (c + 1)
    by_cases e : f c = true
    · rw [if_pos e] at h
      by_cases q : i = c
      · rw [q]; exact e
      · exact ctB_all (n := n) (c := c + 1) (by omega) i (by omega) (by omega)
    · rw [if_neg e] at h
      omega
theorem rank_det {p : Int} {w : Nat} {E : Nat → Nat → Int} {s : Nat → Int} {ok : Prop} {k : Nat} {a : Nat → Int} (hp : pOk p) (hE : ∀ i j, i < w → j < w → 0 ≤ E i j ∧ E i j < p) (hs : ∀ i, i < w → 0 ≤ s i ∧ s i < p) (h : LSpec p w w (aug E w s) ok k a) : (k = w ↔ dt w E % p ≠ 0) ∧ (k = w → ok) := by
  have hp2 := hp.1
  obtain ⟨C, k0, T, hEl, hd⟩ := El_ex (R := w) (u := w) (A := aug E w s) hp (aug_rng hE hs) w (Nat.le_refl w)
  rw [Nat.sub_self] at hEl
  obtain ⟨o1, o2, -⟩ := LSpec_one h (El_spec hp2.1 hEl)
  subst o2
  have hdE : dt w (aug E w s) = dt w E := dt_congr (fun i j hi hj => by unfold aug; rw [if_pos hj])
  have hd := hd rfl
  rw [hdE] at hd
  obtain ⟨e0, e1, e2, e3, e4, e5, e6⟩ := hEl
  refine ⟨⟨fun hk hz => ?_, fun hz => ?_⟩, fun hk => o1.mpr (fun r r1 r2 => absurd r2 (by omega))⟩
  · have hall : ∀ c, c < w → ∃ r, T c = some r := fun c hc => by
      have h1 : ctB (fun d => (T d).isSome) 0 w = w := by rw [Nat.sub_zero] at e6; omega
      have := ctB_all h1 c (Nat.zero_le _) (by omega)
      cases ht : T c with
      | none => rw [ht] at this; cases this
      | some r => exact ⟨r, rfl⟩
    have hval : ∀ c, c < w → T c = some ((T c).getD 0) := fun c hc => by
      obtain ⟨r, hr⟩ := hall c hc
      rw [hr]; rfl
    have hpm := dt_perm w C (fun c => (T c).getD 0) (fun c hc => by
      have := (e3 c (Nat.zero_le _) hc _ (hval c hc)).1
      omega) (fun c d hc hd e => by
      obtain ⟨-, b2, b3, b4⟩ := e3 c (Nat.zero_le _) hc _ (hval c hc)
      obtain ⟨-, c2, c3, c4⟩ := e3 d (Nat.zero_le _) hd _ (hval d hd)
      have e : (T c).getD 0 = (T d).getD 0 := e
      rcases Nat.lt_trichotomy c d with q | q | q
      · have := b4 d q hd; rw [e] at this; omega
      · exact q
      · have := c4 c q hc; rw [← e] at this; omega) (fun i c hi hc => by
      obtain ⟨-, b2, b3, b4⟩ := e3 c (Nat.zero_le _) hc _ (hval c hc)
      show C i c = if i = (T c).getD 0 then 1 else 0
      by_cases q : i = (T c).getD 0
      · rw [if_pos q, q]; exact b2
      · rw [if_neg q]; exact b3 i hi q)
    have h0 := hd.mpr hz
    rcases hpm with q | q
    · rw [q, Int.emod_eq_of_lt (by omega) (by omega)] at h0; omega
    · rw [q] at h0
      have := Int.dvd_of_emod_eq_zero h0
      obtain ⟨x, hx⟩ := this
      have hx2 : p * (-x) = 1 := by rw [Int.mul_neg]; omega
      have := Int.eq_one_of_mul_eq_one_right (by omega) hx2
      omega
  · rcases Nat.lt_or_ge k w with q | q
    · exact absurd (hd.mp (by rw [dt_row0 q (fun j hj => e5 k (Nat.le_refl k) q j (Nat.zero_le _) hj), Int.zero_emod])) hz
    · omega
