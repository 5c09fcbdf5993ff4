/-! ===== determinants ===== -/
def sm : Nat → (Nat → Int) → Int
  | 0, _ => 0
  | n + 1, f => sm n f + f n
theorem sm_congr {f h : Nat → Int} : ∀ {n : Nat}, (∀ i, i < n → f i = h i) → sm n f = sm n h
  | 0, _ => rfl
  | n + 1, e => by show sm n f + f n = sm n h + h n; rw [sm_congr (fun i hi => e i (by omega)), e n (by omega)]
theorem sm_add (f h : Nat → Int) : ∀ n : Nat, sm n (fun i => f i + h i) = sm n f + sm n h
  | 0 => rfl
  | n + 1 => by show sm n _ + (f n + h n) = (sm n f + f n) + (sm n h + h n); rw [sm_add f h n]; omega
theorem sm_mul (t : Int) (f : Nat → Int) : ∀ n : Nat, sm n (fun i => t * f i) = t * sm n f
  | 0 => by show (0 : Int) = t * 0; rw [Int.mul_zero]
  | n + 1 => by show sm n _ + t * f n = t * (sm n f + f n); rw [sm_mul t f n, Int.mul_add]
theorem sm_zero {f : Nat → Int} : ∀ {n : Nat}, (∀ i, i < n → f i = 0) → sm n f = 0
  | 0, _ => rfl
  | n + 1, e => by show sm n f + f n = 0; rw [sm_zero (fun i hi => e i (by omega)), e n (by omega)]; rfl
theorem sm_first (f : Nat → Int) : ∀ n : Nat, sm (n + 1) f = f 0 + sm n (fun i => f (i + 1))
  | 0 => by show (0 : Int) + f 0 = f 0 + 0; omega
  | n + 1 => by show sm (n + 1) f + f (n + 1) = f 0 + (sm n (fun i => f (i + 1)) + f (n + 1)); rw [sm_first f n]; omega
theorem sm_mod {p : Int} {f h : Nat → Int} : ∀ {n : Nat}, (∀ i, i < n → f i % p = h i % p) → sm n f % p = sm n h % p
  | 0, _ => rfl
  | n + 1, e => by
    show (sm n f + f n) % p = (sm n h + h n) % p
    rw [Int.add_emod, sm_mod (fun i hi => e i (by omega)), e n (by omega), ← Int.add_emod]
theorem sm_adj {f h : Nat → Int} {k : Nat} (e1 : h k = - f (k + 1)) (e2 : h (k + 1) = - f k) : ∀ {n : Nat}, k + 1 < n → (∀ i, i < n → i ≠ k → i ≠ k + 1 → h i = - f i) → sm n h = - sm n f
  | 0, hk, _ => absurd hk (by omega)
  | n + 1, hk, e => by
    show sm n h + h n = - (sm n f + f n)
    by_cases q : k + 1 = n
    · subst q
      show (sm k h + h k) + h (k + 1) = - ((sm k f + f k) + f (k + 1))
      rw [e1, e2, show sm k h = sm k (fun i => -1 * f i) from sm_congr (fun i hi => by rw [e i (by omega) (by omega) (by omega)]; omega), sm_mul]
      omega
    · rw [sm_adj e1 e2 (by omega) (fun i hi => e i (by omega)), e n (by omega) (by omega) (by omega)]
      omega
def sgn : Nat → Int
  | 0 => 1
  | n + 1 => - sgn n
def mnr (i : Nat) (A : Nat → Nat → Int) : Nat → Nat → Int := fun a b => A (if a < i then a else a + 1) (b + 1)
def dt : Nat → (Nat → Nat → Int) → Int
  | 0, _ => 1
  | n + 1, A => sm (n + 1) (fun i => sgn i * A i 0 * dt n (mnr i A))
theorem dt_succ (n : Nat) (A : Nat → Nat → Int) : dt (n + 1) A = sm (n + 1) (fun i => sgn i * A i 0 * dt n (mnr i A)) := rfl
theorem mnr_lt {n i a : Nat} (hi : i < n + 1) (ha : a < n) : (if a < i then a else a + 1) < n + 1 := by split <;> omega
theorem dt_congr : ∀ {n : Nat} {A B : Nat → Nat → Int}, (∀ i j, i < n → j < n → A i j = B i j) → dt n A = dt n B
  | 0, _, _, _ => rfl
  | n + 1, A, B, h => by
    rw [dt_succ, dt_succ]
    exact sm_congr (fun i hi => by rw [h i 0 hi (by omega), dt_congr (A := mnr i A) (B := mnr i B) (fun a b ha hb => h _ (b + 1) (mnr_lt hi ha) (by omega))])
theorem dt_mod {p : Int} : ∀ {n : Nat} {A B : Nat → Nat → Int}, (∀ i j, i < n → j < n → A i j % p = B i j % p) → dt n A % p = dt n B % p
  | 0, _, _, _ => rfl
  | n + 1, A, B, h => by
    rw [dt_succ, dt_succ]
    refine sm_mod (fun i hi => ?_)
    have h1 : dt n (mnr i A) % p = dt n (mnr i B) % p := dt_mod (fun a b ha hb => h _ (b + 1) (mnr_lt hi ha) (by omega))
    rw [Int.mul_emod, Int.mul_emod (sgn i), h i 0 hi (by omega), h1, ← Int.mul_emod (sgn i), ← Int.mul_emod]
def swp (a b : Nat) (A : Nat → Nat → Int) : Nat → Nat → Int := fun i => if i = a then A b else if i = b then A a else A i
theorem mnr_swp {k i : Nat} {A : Nat → Nat → Int} (h1 : i ≠ k) (h2 : i ≠ k + 1) : mnr i (swp k (k + 1) A) = if i < k then swp (k - 1) k (mnr i A) else swp k (k + 1) (mnr i A) := by
  funext a b
  by_cases q : i < k
  · rw [if_pos q]
    unfold mnr swp
    by_cases e1 : a = k - 1
    · subst e1
      have a1 : ¬ (k - 1 < i) := by omega
      have a2 : k - 1 + 1 = k := by omega
      have a3 : ¬ (k < i) := by omega
      simp only [a1, a2, a3, if_true, if_false]
    · by_cases e2 : a = k
      · subst e2
        have a1 : ¬ (a < i) := by omega
        have a2 : ¬ (a + 1 = a) := by omega
        have a3 : ¬ (a - 1 < i) := by omega
        have a4 : a - 1 + 1 = a := by omega
        have a5 : ¬ (a = a - 1) := by omega
        simp only [a1, a2, a3, a4, a5, if_true, if_false]
      · have a1 : ¬ ((if a < i then a else a + 1) = k) := by split <;> omega
        have a2 : ¬ ((if a < i then a else a + 1) = k + 1) := by split <;> omega
        simp only [a1, a2, e1, e2, if_false]
  · rw [if_neg q]
    unfold mnr swp
    by_cases e1 : a = k
    · subst e1
      have a1 : a < i := by omega
      have a2 : a + 1 < i := by omega
      simp only [a1, a2, if_true]
    · by_cases e2 : a = k + 1
      · subst e2
        have a1 : k + 1 < i := by omega
        have a2 : k < i := by omega
        have a3 : ¬ (k + 1 = k) := by omega
        simp only [a1, a2, a3, if_true, if_false]
      · have a1 : ¬ ((if a < i then a else a + 1) = k) := by split <;> omega
        have a2 : ¬ ((if a < i then a else a + 1) = k + 1) := by split <;> omega
        simp only [a1, a2, e1, e2, if_false]
theorem mnr_swp_k (k : Nat) (A : Nat → Nat → Int) : mnr k (swp k (k + 1) A) = mnr (k + 1) A := by
  funext a b
  unfold mnr swp
  by_cases e : a < k
  · have a1 : ¬ (a = k) := by omega
    have a2 : ¬ (a = k + 1) := by omega
    have a3 : a < k + 1 := by omega
    simp only [e, a1, a2, a3, if_true, if_false]
  · by_cases e2 : a = k
    · subst e2
      have a1 : ¬ (a < a) := by omega
      have a2 : ¬ (a + 1 = a) := by omega
      have a3 : a < a + 1 := by omega
      simp only [a1, a2, a3, if_true, if_false]
    · have a1 : ¬ (a + 1 = k) := by omega
      have a2 : ¬ (a + 1 = k + 1) := by omega
      have a3 : ¬ (a < k + 1) := by omega
      simp only [e, a1, a2, a3, if_false]
theorem mnr_swp_k1 (k : Nat) (A : Nat → Nat → Int) : mnr (k + 1) (swp k (k + 1) A) = mnr k A := by
  have h := mnr_swp_k k (swp k (k + 1) A)
  have e : swp k (k + 1) (swp k (k + 1) A) = A := by
    funext i
    unfold swp
    by_cases e1 : i = k
    · subst e1
      have a1 : ¬ (i + 1 = i) := by omega
      simp only [a1, if_true, if_false]
    · by_cases e2 : i = k + 1
      · subst e2
        have a1 : ¬ (k + 1 = k) := by omega
        simp only [a1, if_true, if_false]
      · simp only [e1, e2, if_false]
  rw [e] at h
  exact h.symm
theorem dt_adj : ∀ {n k : Nat} (A : Nat → Nat → Int), k + 1 < n → dt n (swp k (k + 1) A) = - dt n A
  | 0, _, _, h => absurd h (by omega)
  | n + 1, k, A, h => by
    rw [dt_succ, dt_succ]
    refine sm_adj (k := k) ?_ ?_ h (fun i hi h1 h2 => ?_)
    · show sgn k * swp k (k + 1) A k 0 * _ = - (- sgn k * A (k + 1) 0 * _)
      rw [mnr_swp_k, show swp k (k + 1) A k = A (k + 1) by unfold swp; rw [if_pos rfl], Int.neg_mul, Int.neg_mul, Int.neg_neg]
    · show - sgn k * swp k (k + 1) A (k + 1) 0 * _ = - (sgn k * A k 0 * _)
      rw [mnr_swp_k1, show swp k (k + 1) A (k + 1) = A k by unfold swp; rw [if_neg (by omega), if_pos rfl], Int.neg_mul, Int.neg_mul]
    · show sgn i * swp k (k + 1) A i 0 * _ = - (sgn i * A i 0 * _)
      rw [mnr_swp h1 h2, show swp k (k + 1) A i = A i by unfold swp; rw [if_neg h1, if_neg h2]]
      have e : dt n (if i < k then swp (k - 1) k (mnr i A) else swp k (k + 1) (mnr i A)) = - dt n (mnr i A) := by
        by_cases q : i < k
        · rw [if_pos q]
          have := dt_adj (n := n) (k := k - 1) (mnr i A) (by omega)
          rw [show k - 1 + 1 = k by omega] at this
          exact this
        · rw [if_neg q]
          exact dt_adj (n := n) (k := k) (mnr i A) (by omega)
      rw [e, Int.mul_neg]
theorem swp_conj {a b : Nat} (h : a < b) (A : Nat → Nat → Int) : swp a (b + 1) A = swp b (b + 1) (swp a b (swp b (b + 1) A)) := by
  funext i
  unfold swp
  by_cases e1 : i = a
  · subst e1
    have a1 : ¬ (i = b) := by omega
    have a2 : ¬ (i = b + 1) := by omega
    have a3 : ¬ (b = i) := by omega
    simp only [a1, a2, if_true, if_false]
  · by_cases e2 : i = b
    · subst e2
      have a1 : ¬ (i + 1 = a) := by omega
      have a2 : ¬ (i = i + 1) := by omega
      have a3 : ¬ (i + 1 = i) := by omega
      simp only [e1, a1, a2, a3, if_true, if_false]
    · by_cases e3 : i = b + 1
      · subst e3
        have a1 : ¬ (b + 1 = b) := by omega
        have a2 : ¬ (b = a) := by omega
        have a3 : ¬ (a = b) := by omega
        have a4 : ¬ (a = b + 1) := by omega
        simp only [e1, a1, a2, a3, a4, if_true, if_false]
      · simp only [e1, e2, e3, if_false]
theorem dt_swap : ∀ (d : Nat) {n a b : Nat} (A : Nat → Nat → Int), b = a + 1 + d → b < n → dt n (swp a b A) = - dt n A
  | 0, n, a, b, A, e, h => by subst e; exact dt_adj A h
  | d + 1, n, a, b, A, e, h => by
    have e2 : b = (a + 1 + d) + 1 := by omega
    subst e2
    rw [swp_conj (by omega), dt_adj _ h, dt_swap d _ rfl (by omega), dt_adj _ h]
    omega
theorem dt_same {n a b : Nat} {A : Nat → Nat → Int} (hab : a < b) (hb : b < n) (h : A a = A b) : dt n A = 0 := by
  have e : swp a b A = A := by
    funext i
    unfold swp
    by_cases e1 : i = a
    · rw [if_pos e1, e1, h]
    · rw [if_neg e1]
      by_cases e2 : i = b
      · rw [if_pos e2, e2, h]
      · rw [if_neg e2]
  have := dt_swap (b - a - 1) A (show b = a + 1 + (b - a - 1) by omega) hb
  rw [e] at this
  omega
def rep (s : Nat) (u : Nat → Int) (A : Nat → Nat → Int) : Nat → Nat → Int := fun i => if i = s then u else A i
theorem mnr_rep_self (s : Nat) (u : Nat → Int) (A : Nat → Nat → Int) : mnr s (rep s u A) = mnr s A := by
  funext a b
  unfold mnr rep
  rw [if_neg (by split <;> omega)]
theorem mnr_rep_ne {i s : Nat} (h : i ≠ s) (u : Nat → Int) (A : Nat → Nat → Int) : mnr i (rep s u A) = rep (if s < i then s else s - 1) (fun j => u (j + 1)) (mnr i A) := by
  funext a b
  unfold mnr rep
  by_cases e : (if a < i then a else a + 1) = s
  · have e2 : a = (if s < i then s else s - 1) := by
      revert e
      split <;> split <;> omega
    rw [if_pos e, if_pos e2]
  · have e2 : ¬ a = (if s < i then s else s - 1) := by
      revert e
      split <;> split <;> omega
    rw [if_neg e, if_neg e2]
theorem dt_lin : ∀ {n s : Nat} (u v : Nat → Int) (t : Int) (A : Nat → Nat → Int), s < n → dt n (rep s (fun j => u j + t * v j) A) = dt n (rep s u A) + t * dt n (rep s v A)
  | 0, _, _, _, _, _, h => absurd h (by omega)
  | n + 1, s, u, v, t, A, h => by
    rw [dt_succ, dt_succ, dt_succ, ← sm_mul, ← sm_add]
    refine sm_congr (fun i hi => ?_)
    by_cases e : i = s
    · subst e
      rw [mnr_rep_self, mnr_rep_self, mnr_rep_self, show rep i (fun j => u j + t * v j) A i = fun j => u j + t * v j by unfold rep; rw [if_pos rfl], show rep i u A i = u by unfold rep; rw [if_pos rfl], show rep i v A i = v by unfold rep; rw [if_pos rfl]]
      show sgn i * (u 0 + t * v 0) * dt n (mnr i A) = sgn i * u 0 * dt n (mnr i A) + t * (sgn i * v 0 * dt n (mnr i A))
      rw [Int.mul_add, Int.add_mul, Int.mul_left_comm (sgn i) t, Int.mul_assoc t]
    · rw [mnr_rep_ne e, mnr_rep_ne e, mnr_rep_ne e, dt_lin (fun j => u (j + 1)) (fun j => v (j + 1)) t (mnr i A) (by split <;> omega)]
      rw [show rep s (fun j => u j + t * v j) A i = A i by unfold rep; rw [if_neg e], show rep s u A i = A i by unfold rep; rw [if_neg e], show rep s v A i = A i by unfold rep; rw [if_neg e]]
      rw [Int.mul_add, Int.mul_left_comm (sgn i * A i 0) t]
theorem dt_addrow {n s r : Nat} (t : Int) (A : Nat → Nat → Int) (hs : s < n) (hr : r < n) (hne : s ≠ r) : dt n (rep s (fun j => A s j + t * A r j) A) = dt n A := by
  rw [dt_lin (A s) (A r) t A hs]
  have e1 : rep s (A s) A = A := by
    funext i
    unfold rep
    by_cases e : i = s
    · rw [if_pos e, e]
    · rw [if_neg e]
  have e2 : dt n (rep s (A r) A) = 0 := by
    have es : rep s (A r) A s = A r := by unfold rep; rw [if_pos rfl]
    have er : rep s (A r) A r = A r := by unfold rep; rw [if_neg (Ne.symm hne)]
    rcases Nat.lt_or_gt_of_ne hne with q | q
    · exact dt_same q hr (by rw [es, er])
    · exact dt_same q hs (by rw [es, er])
  rw [e1, e2, Int.mul_zero, Int.add_zero]
theorem dt_col0 {n : Nat} {A : Nat → Nat → Int} (h : ∀ i, i < n + 1 → A i 0 = 0) : dt (n + 1) A = 0 := by
  rw [dt_succ]
  exact sm_zero (fun i hi => by rw [h i hi, Int.mul_zero, Int.zero_mul])
theorem dt_col1 {n : Nat} {A : Nat → Nat → Int} (h : ∀ i, 0 < i → i < n + 1 → A i 0 = 0) : dt (n + 1) A = A 0 0 * dt n (fun a b => A (a + 1) (b + 1)) := by
  rw [dt_succ, sm_first, sm_zero (n := n) (fun i hi => by rw [h (i + 1) (by omega) (by omega), Int.mul_zero, Int.zero_mul]), Int.add_zero]
  show 1 * A 0 0 * dt n (mnr 0 A) = _
  rw [Int.one_mul]
  rfl
