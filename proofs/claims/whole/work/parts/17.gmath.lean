/-! ===== rows of a grid by a prime ===== -/
def wC (M : fM) (C : Nat → Nat → Int) : fM := fun k => if k = 10 then C else M k
theorem wC_10 (M : fM) (C : Nat → Nat → Int) : wC M C 10 = C := by unfold wC; rw [if_pos rfl]
theorem wC_ne {M : fM} {C : Nat → Nat → Int} {k : Nat} (h : k ≠ 10) : wC M C k = M k := by unfold wC; rw [if_neg h]
theorem wC_wC (M : fM) (C D : Nat → Nat → Int) : wC (wC M C) D = wC M D := by
  funext k
  unfold wC
  by_cases e : k = 10
  · rw [if_pos e, if_pos e]
  · rw [if_neg e, if_neg e, if_neg e]
theorem wC_self (M : fM) : wC M (M 10) = M := by
  funext k
  unfold wC
  by_cases e : k = 10
  · rw [if_pos e, e]
  · rw [if_neg e]
theorem wC_up (M : fM) (C : Nat → Nat → Int) (i j : Nat) (v : Int) : fup (wC M C) 10 i j v = wC M (fun a b => if a = i ∧ b = j then v else C a b) := by
  funext k a b
  unfold fup wC
  by_cases e : k = 10
  · subst e
    by_cases e2 : a = i ∧ b = j
    · rw [if_pos ⟨rfl, e2⟩, if_pos rfl]; rw [if_pos e2]
    · rw [if_neg (fun h => e2 h.2), if_pos rfl, if_pos rfl]; rw [if_neg e2]
  · rw [if_neg (fun h => e h.1), if_neg e, if_neg e]
def rTk (p : Int) (C : Nat → Nat → Int) (row other : Nat) (t : Int) (a b : Nat) : Nat → Nat → Int := fun i j => if i = row ∧ a ≤ j ∧ j < b then (C row j + (p - t) * C other j) % p else C i j
theorem rTk_rng {p : Int} {C : Nat → Nat → Int} {row other : Nat} {t : Int} {a b R K : Nat} (hp : 0 < p) (h : ∀ i j, i < R → j < K → 0 ≤ C i j ∧ C i j < p) : ∀ i j, i < R → j < K → 0 ≤ rTk p C row other t a b i j ∧ rTk p C row other t a b i j < p := by
  intro i j hi hj
  unfold rTk
  split
  · exact modb hp
  · exact h i j hi hj
theorem rTk_ne {p : Int} {C : Nat → Nat → Int} {row other : Nat} {t : Int} {a b i j : Nat} (h : ¬ (i = row ∧ a ≤ j ∧ j < b)) : rTk p C row other t a b i j = C i j := by unfold rTk; rw [if_neg h]
theorem rTk_at {p : Int} {C : Nat → Nat → Int} {row other : Nat} {t : Int} {a b j : Nat} (h1 : a ≤ j) (h2 : j < b) : rTk p C row other t a b row j = (C row j + (p - t) * C other j) % p := by unfold rTk; rw [if_pos ⟨rfl, h1, h2⟩]
theorem emm (a b p : Int) : (a % p * b) % p = (a * b) % p := by rw [Int.mul_emod, Int.emod_emod, ← Int.mul_emod]
theorem mem' (a b p : Int) : (a * (b % p)) % p = (a * b) % p := by rw [Int.mul_emod, Int.emod_emod, ← Int.mul_emod]
abbrev sbm (c : Nat) (C : Nat → Nat → Int) : Nat → Nat → Int := fun a b => C (c + a) (c + b)
theorem rTk_dt {p : Int} {C : Nat → Nat → Int} {s r : Nat} {t : Int} {a n c : Nat} (ha : a ≤ c) (h1 : c ≤ s) (h2 : s < n) (h3 : c ≤ r) (h4 : r < n) (h5 : s ≠ r) : dt (n - c) (sbm c (rTk p C s r t a n)) % p = dt (n - c) (sbm c C) % p := by
  rw [← dt_addrow (n := n - c) (s := s - c) (r := r - c) (p - t) (sbm c C) (by omega) (by omega) (by omega)]
  refine dt_mod (fun i j hi hj => ?_)
  show rTk p C s r t a n (c + i) (c + j) % p = rep (s - c) (fun j => C (c + (s - c)) (c + j) + (p - t) * C (c + (r - c)) (c + j)) (sbm c C) i j % p
  unfold rep
  by_cases e : i = s - c
  · have e1 : c + i = s := by omega
    have e2 : c + (s - c) = s := by omega
    have e3 : c + (r - c) = r := by omega
    rw [if_pos e, e1, e2, e3, rTk_at (by omega) (by omega), Int.emod_emod]
  · rw [if_neg e, rTk_ne (by omega)]
/-- the determinant so far -/
def dI (p : Int) (n : Nat) (A : Nat → Nat → Int) (c : Nat) (prod : Int) (C : Nat → Nat → Int) : Prop := (∀ i j, i < n → j < n → 0 ≤ C i j ∧ C i j < p) ∧ (prod * dt (n - c) (sbm c C)) % p = dt n A % p
theorem dI_0 {p : Int} {n : Nat} {A : Nat → Nat → Int} (h : ∀ i j, i < n → j < n → 0 ≤ A i j ∧ A i j < p) : dI p n A 0 1 A := by
  refine ⟨h, ?_⟩
  rw [Int.one_mul, Nat.sub_zero]
  congr 1
  exact dt_congr (fun i j _ _ => by show A (0 + i) (0 + j) = A i j; rw [Nat.zero_add, Nat.zero_add])
theorem dI_tk {p : Int} {n : Nat} {A : Nat → Nat → Int} {c : Nat} {prod : Int} {C : Nat → Nat → Int} {s r : Nat} {t : Int} {a : Nat} (hp : 0 < p) (h : dI p n A c prod C) (ha : a ≤ c) (h1 : c ≤ s) (h2 : s < n) (h3 : c ≤ r) (h4 : r < n) (h5 : s ≠ r) : dI p n A c prod (rTk p C s r t a n) := by
  refine ⟨rTk_rng hp h.1, ?_⟩
  rw [Int.mul_emod, rTk_dt ha h1 h2 h3 h4 h5, ← Int.mul_emod]
  exact h.2
theorem dI_none {p : Int} {n : Nat} {A : Nat → Nat → Int} {c : Nat} {prod : Int} {C : Nat → Nat → Int} (hc : c < n) (h : dI p n A c prod C) (h0 : ∀ r, c ≤ r → r < n → C r c = 0) : dt n A % p = 0 := by
  rw [← h.2, show n - c = (n - c - 1) + 1 by omega, dt_col0 (fun i hi => h0 (c + i) (by omega) (by omega)), Int.mul_zero, Int.zero_emod]
theorem dI_next {p : Int} {n : Nat} {A : Nat → Nat → Int} {c : Nat} {prod : Int} {C : Nat → Nat → Int} (hc : c < n) (h : dI p n A c prod C) (h0 : ∀ r, c < r → r < n → C r c = 0) : dI p n A (c + 1) ((prod * C c c) % p) C := by
  refine ⟨h.1, ?_⟩
  rw [← h.2, show n - c = (n - (c + 1)) + 1 by omega, dt_col1 (A := sbm c C) (fun i h1 h2 => h0 (c + i) (by omega) (by omega)), ← Int.mul_assoc, emm]
  have e : dt (n - (c + 1)) (sbm (c + 1) C) = dt (n - (c + 1)) (fun a b => sbm c C (a + 1) (b + 1)) := dt_congr (fun i j _ _ => by show C (c + 1 + i) (c + 1 + j) = C (c + (i + 1)) (c + (j + 1)); rw [show c + 1 + i = c + (i + 1) by omega, show c + 1 + j = c + (j + 1) by omega])
  rw [e]
  rfl
theorem dI_end {p : Int} {n : Nat} {A : Nat → Nat → Int} {prod : Int} {C : Nat → Nat → Int} (h : dI p n A n prod C) (h1 : 0 ≤ prod) (h2 : prod < p) : prod = dt n A % p := by
  have := h.2
  rw [Nat.sub_self] at this
  rw [← this]
  show prod = (prod * 1) % p
  rw [Int.mul_one, Int.emod_eq_of_lt h1 h2]
/-- what is taken away makes 0 -/
theorem clr0 {p x s v : Int} (hs : (v * s) % p = 1) (hp : 1 < p) : (x + (p - (x * s) % p) * v) % p = 0 := by
  have h1 : (p - (x * s) % p) * v = p * v - ((x * s) % p) * v := Int.sub_mul _ _ _
  have h2 : (((x * s) % p) * v) % p = x % p := by
    rw [emm, Int.mul_assoc, Int.mul_comm s v, Int.mul_emod, hs, Int.mul_one, Int.emod_emod]
  rw [h1, ← Int.add_sub_assoc, Int.sub_emod, h2, Int.add_mul_emod_self_left, Int.sub_self, Int.zero_emod]
theorem clr1 {p x v : Int} (hv : v % p = 1) : (x + (p - x) * v) % p = 0 := by
  have h1 : (p - x) * v = p * v - x * v := Int.sub_mul _ _ _
  have h2 : (x * v) % p = x % p := by rw [Int.mul_emod, hv, Int.mul_one, Int.emod_emod]
  rw [h1, ← Int.add_sub_assoc, Int.sub_emod, h2, Int.add_mul_emod_self_left, Int.sub_self, Int.zero_emod]
