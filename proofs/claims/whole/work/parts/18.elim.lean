/-! ===== equations by a prime, and how they are worked out from the last unknown on ===== -/
def lf (β : Int) (u : Nat) (x v : Nat → Int) : Int := sm u (fun c => v c * x c) - β * v u
theorem lf_lin (β : Int) (u : Nat) (x v w : Nat → Int) (t : Int) : lf β u x (fun j => v j + t * w j) = lf β u x v + t * lf β u x w := by
  unfold lf
  rw [show (fun c => (v c + t * w c) * x c) = (fun c => v c * x c + t * (w c * x c)) by funext c; rw [Int.add_mul, Int.mul_assoc], sm_add (fun c => v c * x c) (fun c => t * (w c * x c)), sm_mul, Int.mul_add, Int.mul_sub, Int.mul_left_comm β t]
  omega
theorem lf_mod {p β : Int} {u : Nat} {x v w : Nat → Int} (h : ∀ j, j ≤ u → v j % p = w j % p) : lf β u x v % p = lf β u x w % p := by
  unfold lf
  have h1 : sm u (fun c => v c * x c) % p = sm u (fun c => w c * x c) % p := sm_mod (fun c hc => by rw [Int.mul_emod, h c (by omega), ← Int.mul_emod])
  have h2 : (β * v u) % p = (β * w u) % p := by rw [Int.mul_emod, h u (Nat.le_refl u), ← Int.mul_emod]
  rw [Int.sub_emod, h1, h2, ← Int.sub_emod]
/-- every equation holds: with the right sides (β 1), or with 0 there (β 0) -/
def Ev (β p : Int) (R u : Nat) (C : Nat → Nat → Int) (x : Nat → Int) : Prop := ∀ r, r < R → lf β u x (C r) % p = 0
theorem zmod {a b p : Int} (h : a % p = b % p) : a % p = 0 ↔ b % p = 0 := by rw [h]
theorem Ev_tk {β p : Int} {R u : Nat} {C : Nat → Nat → Int} {s q : Nat} {t : Int} (hs : s < R) (hq : q < R) (hne : s ≠ q) (x : Nat → Int) : Ev β p R u (rTk p C s q t 0 (u + 1)) x ↔ Ev β p R u C x := by
  have e : lf β u x (rTk p C s q t 0 (u + 1) s) % p = (lf β u x (C s) + (p - t) * lf β u x (C q)) % p := by
    rw [← lf_lin]
    exact lf_mod (fun j hj => by rw [rTk_at (Nat.zero_le _) (by omega), Int.emod_emod])
  have o : ∀ r, r ≠ s → rTk p C s q t 0 (u + 1) r = C r := fun r hr => by funext j; exact rTk_ne (fun h => hr h.1)
  constructor
  · intro h r hr
    by_cases es : r = s
    · subst es
      have h1 := h r hr
      have h2 := h q hq
      rw [e] at h1
      rw [o q (Ne.symm hne)] at h2
      rw [Int.add_emod, Int.mul_emod, h2, Int.mul_zero, Int.zero_emod, Int.add_zero, Int.emod_emod] at h1
      exact h1
    · have := h r hr
      rw [o r es] at this
      exact this
  · intro h r hr
    by_cases es : r = s
    · subst es
      rw [e, Int.add_emod, Int.mul_emod, h q hq, h r hr, Int.mul_zero, Int.zero_emod, Int.add_zero, Int.zero_emod]
    · rw [o r es]
      exact h r hr
/-- a row many times -/
def rSc (p : Int) (C : Nat → Nat → Int) (s : Nat) (v : Int) (b : Nat) : Nat → Nat → Int := fun i j => if i = s ∧ j < b then (C s j * v) % p else C i j
theorem rSc_at {p : Int} {C : Nat → Nat → Int} {s : Nat} {v : Int} {b j : Nat} (h : j < b) : rSc p C s v b s j = (C s j * v) % p := by unfold rSc; rw [if_pos ⟨rfl, h⟩]
theorem rSc_ne {p : Int} {C : Nat → Nat → Int} {s : Nat} {v : Int} {b i j : Nat} (h : ¬ (i = s ∧ j < b)) : rSc p C s v b i j = C i j := by unfold rSc; rw [if_neg h]
theorem rSc_rng {p : Int} {C : Nat → Nat → Int} {s : Nat} {v : Int} {b R K : Nat} (hp : 0 < p) (h : ∀ i j, i < R → j < K → 0 ≤ C i j ∧ C i j < p) : ∀ i j, i < R → j < K → 0 ≤ rSc p C s v b i j ∧ rSc p C s v b i j < p := by
  intro i j hi hj
  unfold rSc
  split
  · exact modb hp
  · exact h i j hi hj
theorem lf_mul (β : Int) (u : Nat) (x w : Nat → Int) (t : Int) : lf β u x (fun j => t * w j) = t * lf β u x w := by
  have h := lf_lin β u x (fun _ => 0) w t
  have h0 : lf β u x (fun _ => 0) = 0 := by
    unfold lf
    rw [sm_zero (fun i _ => Int.zero_mul _), Int.mul_zero]
    rfl
  rw [h0, Int.zero_add] at h
  rw [← h]
  congr 1
  funext j
  rw [Int.zero_add]
theorem Ev_sc {β p : Int} {R u : Nat} {C : Nat → Nat → Int} {s : Nat} {v w : Int} (hs : s < R) (hv : (w * v) % p = 1) (x : Nat → Int) : Ev β p R u (rSc p C s v (u + 1)) x ↔ Ev β p R u C x := by
  have e : lf β u x (rSc p C s v (u + 1) s) % p = (v * lf β u x (C s)) % p := by
    rw [← lf_mul]
    exact lf_mod (fun j hj => by rw [rSc_at (by omega), Int.emod_emod, Int.mul_comm])
  have o : ∀ r, r ≠ s → rSc p C s v (u + 1) r = C r := fun r hr => by funext j; exact rSc_ne (fun h => hr h.1)
  constructor
  · intro h r hr
    by_cases es : r = s
    · subst es
      have h1 := h r hr
      rw [e] at h1
      have h2 : (w * (v * lf β u x (C r))) % p = 0 := by rw [← mem', h1, Int.mul_zero, Int.zero_emod]
      rw [← Int.mul_assoc, ← emm, hv, Int.one_mul] at h2
      exact h2
    · have := h r hr
      rw [o r es] at this
      exact this
  · intro h r hr
    by_cases es : r = s
    · subst es
      rw [e, ← mem', h r hr, Int.mul_zero, Int.zero_emod]
    · rw [o r es]
      exact h r hr
theorem Ev_swp {β p : Int} {R u : Nat} {C : Nat → Nat → Int} {a b : Nat} (ha : a < R) (hb : b < R) (x : Nat → Int) : Ev β p R u (swp a b C) x ↔ Ev β p R u C x := by
  constructor
  · intro h r hr
    by_cases e1 : r = a
    · subst e1
      have := h b hb
      unfold swp at this
      by_cases e2 : b = r
      · rw [if_pos e2, e2] at this; exact this
      · rw [if_neg e2, if_pos rfl] at this; exact this
    · by_cases e2 : r = b
      · subst e2
        have := h a ha
        unfold swp at this
        rw [if_pos rfl] at this
        exact this
      · have := h r hr
        unfold swp at this
        rw [if_neg e1, if_neg e2] at this
        exact this
  · intro h r hr
    unfold swp
    by_cases e1 : r = a
    · rw [if_pos e1]; exact h b hb
    · rw [if_neg e1]
      by_cases e2 : r = b
      · rw [if_pos e2]; exact h a ha
      · rw [if_neg e2]; exact h r hr
theorem Ev_congr {β p : Int} {R u : Nat} {C D : Nat → Nat → Int} (h : ∀ i j, i < R → j ≤ u → C i j = D i j) (x : Nat → Int) : Ev β p R u C x ↔ Ev β p R u D x := by
  have e : ∀ r, r < R → lf β u x (C r) % p = lf β u x (D r) % p := fun r hr => lf_mod (fun j hj => by rw [h r j hr hj])
  exact ⟨fun k r hr => by rw [← e r hr]; exact k r hr, fun k r hr => by rw [e r hr]; exact k r hr⟩
/-! what is told of them -/
def InP (p : Int) (u : Nat) (x : Nat → Int) : Prop := ∀ c, c < u → 0 ≤ x c ∧ x c < p
def Least (p : Int) (R u : Nat) (C : Nat → Nat → Int) (x : Nat → Int) : Prop := InP p u x ∧ Ev 1 p R u C x ∧ ∀ y, InP p u y → Ev 1 p R u C y → (∀ c, c < u → x c = y c) ∨ ∃ c, c < u ∧ (∀ j, j < c → x j = y j) ∧ x c < y c
theorem Least_one {p : Int} {R u : Nat} {C : Nat → Nat → Int} {x y : Nat → Int} (hx : Least p R u C x) (hy : Least p R u C y) : ∀ c, c < u → x c = y c := by
  rcases hx.2.2 y hy.1 hy.2.1 with h | ⟨c, h1, h2, h3⟩
  · exact h
  · rcases hy.2.2 x hx.1 hx.2.1 with h | ⟨d, k1, k2, k3⟩
    · exact fun c hc => (h c hc).symm
    · exfalso
      rcases Nat.lt_trichotomy c d with q | q | q
      · have := k2 c q; omega
      · subst q; omega
      · have := h2 d q; omega
/-- an unknown that others ahead of it don't tell -/
def Fr (p : Int) (R u : Nat) (C : Nat → Nat → Int) (c : Nat) : Prop := ∃ h, Ev 0 p R u C h ∧ (∀ j, j < c → h j % p = 0) ∧ h c % p ≠ 0
def ctB (f : Nat → Bool) : Nat → Nat → Nat
  | _, 0 => 0
  | c, n + 1 => (if f c then 1 else 0) + ctB f (c + 1) n
theorem ctB_congr {f h : Nat → Bool} : ∀ {n c : Nat}, (∀ i, c ≤ i → i < c + n → f i = h i) → ctB f c n = ctB h c n
  | 0, _, _ => rfl
  | n + 1, c, e => by
    show (if f c then 1 else 0) + ctB f (c + 1) n = (if h c then 1 else 0) + ctB h (c + 1) n
    rw [e c (Nat.le_refl c) (by omega), ctB_congr (fun i h1 h2 => e i (by omega) (by omega))]
def LSpec (p : Int) (R u : Nat) (C : Nat → Nat → Int) (ok : Prop) (rank : Nat) (ans : Nat → Int) : Prop :=
  (∃ tl : Nat → Bool, (∀ c, c < u → (tl c = false ↔ Fr p R u C c)) ∧ rank = ctB tl 0 u) ∧ (ok ↔ ∃ x, Ev 1 p R u C x) ∧ (ok → Least p R u C ans)
theorem LSpec_one {p : Int} {R u : Nat} {C : Nat → Nat → Int} {ok ok' : Prop} {k k' : Nat} {a a' : Nat → Int} (h : LSpec p R u C ok k a) (h' : LSpec p R u C ok' k' a') : (ok ↔ ok') ∧ k = k' ∧ (ok → ∀ c, c < u → a c = a' c) := by
  obtain ⟨⟨t, t1, t2⟩, o1, l1⟩ := h
  obtain ⟨⟨t', t1', t2'⟩, o1', l1'⟩ := h'
  have e : ok ↔ ok' := o1.trans o1'.symm
  refine ⟨e, ?_, fun hk => Least_one (l1 hk) (l1' (e.mp hk))⟩
  rw [t2, t2']
  refine ctB_congr (fun i _ hi => ?_)
  have q := (t1 i (by omega)).trans (t1' i (by omega)).symm
  cases h1 : t i <;> cases h2 : t' i
  · rfl
  · rw [h1, h2] at q; exact absurd (q.mp rfl) (by decide)
  · rw [h1, h2] at q; exact absurd (q.mpr rfl) (by decide)
  · rfl
/-- worked out down to column c: k rows tell an unknown each -/
def El (p : Int) (R u : Nat) (A : Nat → Nat → Int) (c : Nat) (C : Nat → Nat → Int) (k : Nat) (T : Nat → Option Nat) : Prop :=
  (∀ i j, i < R → j < u + 1 → 0 ≤ C i j ∧ C i j < p) ∧ (∀ β x, Ev β p R u C x ↔ Ev β p R u A x) ∧ k ≤ R ∧
  (∀ d, c ≤ d → d < u → ∀ r, T d = some r → r < k ∧ C r d = 1 ∧ (∀ i, i < R → i ≠ r → C i d = 0) ∧ (∀ e, d < e → e < u → C r e = 0)) ∧
  (∀ r, r < k → ∃ d, c ≤ d ∧ d < u ∧ T d = some r) ∧ (∀ r, k ≤ r → r < R → ∀ d, c ≤ d → d < u → C r d = 0) ∧ k = ctB (fun d => (T d).isSome) c (u - c)
theorem El_0 {p : Int} {R u : Nat} {A : Nat → Nat → Int} (h : ∀ i j, i < R → j < u + 1 → 0 ≤ A i j ∧ A i j < p) (T : Nat → Option Nat) : El p R u A u A 0 T := by
  refine ⟨h, fun _ _ => Iff.rfl, Nat.zero_le _, fun d h1 h2 => absurd h2 (by omega), fun r hr => absurd hr (by omega), fun r _ _ d h1 h2 => absurd h2 (by omega), ?_⟩
  rw [Nat.sub_self]
  rfl
theorem El_none {p : Int} {R u : Nat} {A : Nat → Nat → Int} {c : Nat} {C : Nat → Nat → Int} {k : Nat} {T T' : Nat → Option Nat} (hc : c < u) (h : El p R u A (c + 1) C k T) (h0 : ∀ r, k ≤ r → r < R → C r c = 0) (hT : T' c = none) (hT' : ∀ d, c < d → d < u → T' d = T d) : El p R u A c C k T' := by
  obtain ⟨e0, e1, e2, e3, e4, e5, e6⟩ := h
  refine ⟨e0, e1, e2, fun d h1 h2 r hr => ?_, fun r hr => ?_, fun r h1 h2 d h3 h4 => ?_, ?_⟩
  · by_cases q : d = c
    · rw [q, hT] at hr; cases hr
    · rw [hT' d (by omega) h2] at hr
      exact e3 d (by omega) h2 r hr
  · obtain ⟨d, h1, h2, h3⟩ := e4 r hr
    exact ⟨d, by omega, h2, by rw [hT' d (by omega) h2]; exact h3⟩
  · by_cases q : d = c
    · rw [q]; exact h0 r h1 h2
    · exact e5 r h1 h2 d (by omega) h4
  · rw [e6, show u - c = (u - (c + 1)) + 1 by omega]
    show _ = (if (T' c).isSome then 1 else 0) + ctB _ (c + 1) _
    rw [hT]
    show _ = 0 + _
    rw [Nat.zero_add]
    exact ctB_congr (fun i h1 h2 => by show (T i).isSome = (T' i).isSome; rw [hT' i (by omega) (by omega)])
theorem El_some {p : Int} {R u : Nat} {A : Nat → Nat → Int} {c : Nat} {C C' : Nat → Nat → Int} {k : Nat} {T T' : Nat → Option Nat} (hc : c < u) (h : El p R u A (c + 1) C k T) (hk : k < R)
    (r0 : ∀ i j, i < R → j < u + 1 → 0 ≤ C' i j ∧ C' i j < p) (r1 : ∀ β x, Ev β p R u C' x ↔ Ev β p R u C x) (r2 : C' k c = 1) (r3 : ∀ i, i < R → i ≠ k → C' i c = 0) (r4 : ∀ i d, i < R → c < d → d < u → C' i d = C i d)
    (hT : T' c = some k) (hT' : ∀ d, c < d → d < u → T' d = T d) : El p R u A c C' (k + 1) T' := by
  obtain ⟨e0, e1, e2, e3, e4, e5, e6⟩ := h
  refine ⟨r0, fun β x => (r1 β x).trans (e1 β x), by omega, fun d h1 h2 r hr => ?_, fun r hr => ?_, fun r h1 h2 d h3 h4 => ?_, ?_⟩
  · by_cases q : d = c
    · subst q
      rw [hT] at hr
      cases hr
      exact ⟨by omega, r2, r3, fun e h3 h4 => by rw [r4 k e hk h3 h4]; exact e5 k (Nat.le_refl k) hk e (by omega) h4⟩
    · rw [hT' d (by omega) h2] at hr
      obtain ⟨a1, a2, a3, a4⟩ := e3 d (by omega) h2 r hr
      exact ⟨by omega, by rw [r4 r d (by omega) (by omega) h2]; exact a2, fun i hi hne => by rw [r4 i d hi (by omega) h2]; exact a3 i hi hne, fun e h3 h4 => by rw [r4 r e (by omega) (by omega) h4]; exact a4 e h3 h4⟩
  · by_cases q : r = k
    · exact ⟨c, Nat.le_refl c, hc, by rw [q]; exact hT⟩
    · obtain ⟨d, h1, h2, h3⟩ := e4 r (by omega)
      exact ⟨d, by omega, h2, by rw [hT' d (by omega) h2]; exact h3⟩
  · by_cases q : d = c
    · rw [q]; exact r3 r h2 (by omega)
    · rw [r4 r d h2 (by omega) h4]; exact e5 r (by omega) h2 d (by omega) h4
  · rw [e6, show u - c = (u - (c + 1)) + 1 by omega]
    show _ = (if (T' c).isSome then 1 else 0) + ctB _ (c + 1) _
    rw [hT, Nat.add_comm]
    show _ = 1 + _
    congr 1
    exact ctB_congr (fun i h1 h2 => by show (T i).isSome = (T' i).isSome; rw [hT' i (by omega) (by omega)])
theorem sm_one {f : Nat → Int} {a : Nat} : ∀ {n : Nat}, a < n → (∀ i, i < n → i ≠ a → f i = 0) → sm n f = f a
  | 0, h, _ => absurd h (by omega)
  | n + 1, h, e => by
    show sm n f + f n = f a
    by_cases q : a = n
    · subst q
      rw [sm_zero (fun i hi => e i (by omega) (by omega)), Int.zero_add]
    · rw [sm_one (by omega) (fun i hi => e i (by omega)), e n (by omega) (by omega), Int.add_zero]
theorem sm_two {f : Nat → Int} {a b : Nat} {n : Nat} (ha : a < n) (hb : b < n) (hab : a ≠ b) (e : ∀ i, i < n → i ≠ a → i ≠ b → f i = 0) : sm n f = f a + f b := by
  have h1 : sm n f = sm n (fun i => (if i = a then f a else 0) + (if i = b then f b else 0)) := sm_congr (fun i hi => by
    by_cases q1 : i = a
    · subst q1; rw [if_pos rfl, if_neg hab, Int.add_zero]
    · by_cases q2 : i = b
      · subst q2; rw [if_neg q1, if_pos rfl, Int.zero_add]
      · rw [if_neg q1, if_neg q2, e i hi q1 q2]; rfl)
  rw [h1, sm_add (fun i => if i = a then f a else 0) (fun i => if i = b then f b else 0), sm_one (f := fun i => if i = a then f a else 0) ha (fun i _ q => if_neg q), sm_one (f := fun i => if i = b then f b else 0) hb (fun i _ q => if_neg q), if_pos rfl, if_pos rfl]
/-- the least one: what is free is 0 -/
def ansT (C : Nat → Nat → Int) (u : Nat) (T : Nat → Option Nat) (c : Nat) : Int := match T c with
  | some r => C r u
  | none => 0
theorem El_spec {p : Int} {R u : Nat} {A : Nat → Nat → Int} {C : Nat → Nat → Int} {k : Nat} {T : Nat → Option Nat} (hp : 2 ≤ p) (h : El p R u A 0 C k T) : LSpec p R u A (∀ r, k ≤ r → r < R → C r u = 0) k (ansT C u T) := by
  obtain ⟨e0, e1, e2, e3, e4, e5, e6⟩ := h
  have tell : ∀ r, r < k → ∃ c, c < u ∧ T c = some r ∧ C r c = 1 ∧ (∀ d, d < u → c < d → C r d = 0) ∧ (∀ d, d < u → d ≠ c → ∀ r', T d = some r' → C r d = 0) := by
    intro r hr
    obtain ⟨c, -, h2, h3⟩ := e4 r hr
    obtain ⟨-, b2, b3, b4⟩ := e3 c (Nat.zero_le _) h2 r h3
    refine ⟨c, h2, h3, b2, fun d hd hcd => b4 d hcd hd, fun d hd hne r' hr' => ?_⟩
    obtain ⟨-, c2, c3, c4⟩ := e3 d (Nat.zero_le _) hd r' hr'
    by_cases q : r = r'
    · subst q
      rcases Nat.lt_or_gt_of_ne hne with z | z
      · have := c4 c z h2; omega
      · have := b4 d z hd; omega
    · exact c3 r (by omega) q
  have inp : InP p u (ansT C u T) := by
    intro c hc
    unfold ansT
    cases ht : T c with
    | none => show (0 : Int) ≤ 0 ∧ (0 : Int) < p; omega
    | some r => exact e0 r u (by have := (e3 c (Nat.zero_le _) hc r ht).1; omega) (by omega)
  have hans : (∀ r, k ≤ r → r < R → C r u = 0) → Ev 1 p R u C (ansT C u T) := by
    intro hok r hr
    unfold lf
    rw [Int.one_mul]
    by_cases q : r < k
    · obtain ⟨d, g1, g2, g3, g4, g5⟩ := tell r q
      rw [sm_one g1 (fun i hi i1 => by
        unfold ansT
        cases ht : T i with
        | none => exact Int.mul_zero _
        | some r' => rw [g5 i hi i1 r' ht, Int.zero_mul])]
      unfold ansT
      rw [g2, g3]
      show (1 * C r u - C r u) % p = 0
      rw [Int.one_mul, Int.sub_self, Int.zero_emod]
    · rw [sm_zero (fun i hi => by rw [e5 r (by omega) hr i (Nat.zero_le _) hi, Int.zero_mul]), hok r (by omega) hr]
      exact Int.zero_emod p
  refine ⟨⟨fun c => (T c).isSome, fun c hc => ?_, by rw [e6, Nat.sub_zero]⟩, ⟨fun hok => ⟨ansT C u T, (e1 1 _).mp (hans hok)⟩, fun ⟨x, hx⟩ r h1 h2 => ?_⟩, fun hok => ⟨inp, (e1 1 _).mp (hans hok), fun y hy1 hy2 => ?_⟩⟩
  · constructor
    · intro hn
      have hn : (T c).isSome = false := hn
      have hn : T c = none := by cases ht : T c with
        | none => rfl
        | some r => rw [ht] at hn; cases hn
      let hh : Nat → Int := fun d => if d = c then 1 else match T d with
        | some r => - C r c
        | none => 0
      refine ⟨hh, (e1 0 _).mp (fun r hr => ?_), fun j hj => ?_, ?_⟩
      · unfold lf
        rw [Int.zero_mul, Int.sub_zero]
        by_cases q : r < k
        · obtain ⟨d, g1, g2, g3, g4, g5⟩ := tell r q
          have hdc : d ≠ c := fun z => by rw [z, hn] at g2; cases g2
          rw [sm_two g1 hc hdc (fun i hi i1 i2 => by
            show C r i * (if i = c then 1 else match T i with | some r => - C r c | none => 0) = 0
            rw [if_neg i2]
            cases ht : T i with
            | none => exact Int.mul_zero _
            | some r' => rw [g5 i hi i1 r' ht, Int.zero_mul])]
          show (C r d * (if d = c then 1 else match T d with | some r => - C r c | none => 0) + C r c * (if c = c then 1 else match T c with | some r => - C r c | none => 0)) % p = 0
          rw [if_neg hdc, g2, g3, if_pos rfl]
          show (1 * - C r c + C r c * 1) % p = 0
          rw [Int.one_mul, Int.mul_one, Int.add_comm, Int.add_right_neg, Int.zero_emod]
        · rw [sm_zero (fun i hi => by rw [e5 r (by omega) hr i (Nat.zero_le _) hi, Int.zero_mul]), Int.zero_emod]
      · show (if j = c then 1 else match T j with | some r => - C r c | none => 0) % p = 0
        rw [if_neg (by omega)]
        cases ht : T j with
        | none => exact Int.zero_emod p
        | some r =>
          show (- C r c) % p = 0
          rw [(e3 j (Nat.zero_le _) (by omega) r ht).2.2.2 c hj hc]
          exact Int.zero_emod p
      · show (if c = c then 1 else match T c with | some r => - C r c | none => 0) % p ≠ 0
        rw [if_pos rfl, Int.emod_eq_of_lt (by omega) (by omega)]
        decide
    · rintro ⟨hh, g1, g2, g3⟩
      show (T c).isSome = false
      cases ht : T c with
      | none => rfl
      | some r =>
        exfalso
        obtain ⟨b1, b2, b3, b4⟩ := e3 c (Nat.zero_le _) hc r ht
        have := (e1 0 hh).mpr g1 r (by omega)
        unfold lf at this
        rw [Int.zero_mul, Int.sub_zero, sm_mod (h := fun d => if d = c then hh c else 0) (fun d hd => by
          show (C r d * hh d) % p = (if d = c then hh c else 0) % p
          by_cases q : d = c
          · rw [if_pos q, q, b2, Int.one_mul]
          · rw [if_neg q]
            rcases Nat.lt_or_gt_of_ne q with z | z
            · rw [← mem', g2 d z, Int.mul_zero]
            · rw [b4 d z hd, Int.zero_mul]), sm_one hc (fun i _ q => if_neg q), if_pos rfl] at this
        exact g3 this
  · have g := (e1 1 x).mpr hx r h2
    unfold lf at g
    rw [sm_zero (fun i hi => by rw [e5 r h1 h2 i (Nat.zero_le _) hi, Int.zero_mul]), Int.one_mul, Int.zero_sub] at g
    have b := e0 r u h2 (by omega)
    have g2 : p ∣ C r u := Int.dvd_neg.mp (Int.dvd_of_emod_eq_zero g)
    have g3 := Int.emod_eq_zero_of_dvd g2
    rwa [Int.emod_eq_of_lt b.1 b.2] at g3
  · by_cases hall : ∀ c, c < u → ansT C u T c = y c
    · exact Or.inl hall
    · right
      have hex : ∃ c, c < u ∧ ansT C u T c ≠ y c := Classical.byContradiction (fun hno => hall (fun c hc => Classical.byContradiction (fun hne => hno ⟨c, hc, hne⟩)))
      obtain ⟨c, ⟨hc, hne⟩, hmin⟩ := pk_least _ hex
      have hsame : ∀ j, j < c → ansT C u T j = y j := fun j hj => Classical.byContradiction (fun h => hmin j hj ⟨by omega, h⟩)
      refine ⟨c, hc, hsame, ?_⟩
      have hyc := hy1 c hc
      have hac := inp c hc
      cases ht : T c with
      | none =>
        have e : ansT C u T c = 0 := by unfold ansT; rw [ht]
        omega
      | some r =>
        exfalso
        obtain ⟨b1, b2, b3, b4⟩ := e3 c (Nat.zero_le _) hc r ht
        have g1 := (e1 1 y).mpr hy2 r (by omega)
        have g2 := hans hok r (by omega)
        unfold lf at g1 g2
        have g3 := Int.dvd_sub (Int.dvd_of_emod_eq_zero g1) (Int.dvd_of_emod_eq_zero g2)
        have g4 : (sm u (fun c => C r c * y c) - 1 * C r u) - (sm u (fun c => C r c * ansT C u T c) - 1 * C r u) = y c - ansT C u T c := by
          have g5 : sm u (fun d => C r d * y d + (-1) * (C r d * ansT C u T d)) = y c - ansT C u T c := by
            rw [sm_one hc (fun d hd q => by
              show C r d * y d + (-1) * (C r d * ansT C u T d) = 0
              rcases Nat.lt_or_gt_of_ne q with z | z
              · rw [hsame d z]; omega
              · rw [b4 d z hd, Int.zero_mul, Int.zero_mul]; rfl)]
            show C r c * y c + (-1) * (C r c * ansT C u T c) = _
            rw [b2]; omega
          rw [sm_add (fun d => C r d * y d) (fun d => (-1) * (C r d * ansT C u T d)), sm_mul] at g5
          omega
        rw [g4] at g3
        have g6 := Int.emod_eq_emod_iff_emod_sub_eq_zero.mpr (Int.emod_eq_zero_of_dvd g3)
        rw [Int.emod_eq_of_lt hyc.1 hyc.2, Int.emod_eq_of_lt hac.1 hac.2] at g6
        exact hne g6.symm
theorem ctB_le (f : Nat → Bool) : ∀ (n c : Nat), ctB f c n ≤ n
  | 0, _ => Nat.le_refl 0
  | n + 1, c => by
    show (if f c then 1 else 0) + ctB f (c + 1) n ≤ n + 1
    have := ctB_le f n (c + 1)
    split <;> omega
theorem LSpec_ok {p : Int} {R u : Nat} {C : Nat → Nat → Int} {ok ok' : Prop} {k : Nat} {a : Nat → Int} (e : ok ↔ ok') (h : LSpec p R u C ok k a) : LSpec p R u C ok' k a := ⟨h.1, e.symm.trans h.2.1, fun q => h.2.2 (e.mpr q)⟩
theorem LSpec_ans {p : Int} {R u : Nat} {C : Nat → Nat → Int} {ok : Prop} {k : Nat} {a a' : Nat → Int} (e : ∀ c, c < u → a c = a' c) (h : LSpec p R u C ok k a) : LSpec p R u C ok k a' := by
  refine ⟨h.1, h.2.1, fun q => ?_⟩
  obtain ⟨h1, h2, h3⟩ := h.2.2 q
  have ev : Ev 1 p R u C a' := fun r hr => by
    have := h2 r hr
    unfold lf at this ⊢
    rw [← sm_congr (f := fun c => C r c * a c) (fun c hc => by rw [e c hc])]
    exact this
  refine ⟨fun c hc => by rw [← e c hc]; exact h1 c hc, ev, fun y y1 y2 => ?_⟩
  rcases h3 y y1 y2 with z | ⟨c, z1, z2, z3⟩
  · exact Or.inl (fun c hc => by rw [← e c hc]; exact z c hc)
  · exact Or.inr ⟨c, z1, fun j hj => by rw [← e j (by omega)]; exact z2 j hj, by rw [← e c z1]; exact z3⟩
theorem LSpec_le {p : Int} {R u : Nat} {C : Nat → Nat → Int} {ok : Prop} {k : Nat} {a : Nat → Int} (h : LSpec p R u C ok k a) : k ≤ u := by
  obtain ⟨t, -, e⟩ := h.1
  rw [e]; exact ctB_le t u 0
theorem LSpec_congr {p : Int} {R u : Nat} {C D : Nat → Nat → Int} {ok : Prop} {k : Nat} {a : Nat → Int} (e : ∀ i j, i < R → j ≤ u → C i j = D i j) (h : LSpec p R u C ok k a) : LSpec p R u D ok k a := by
  obtain ⟨⟨t, t1, t2⟩, o1, l1⟩ := h
  refine ⟨⟨t, fun c hc => (t1 c hc).trans ?_, t2⟩, o1.trans ⟨fun ⟨x, hx⟩ => ⟨x, (Ev_congr e x).mp hx⟩, fun ⟨x, hx⟩ => ⟨x, (Ev_congr e x).mpr hx⟩⟩, fun q => ?_⟩
  · exact ⟨fun ⟨h, h1, h2⟩ => ⟨h, (Ev_congr e h).mp h1, h2⟩, fun ⟨h, h1, h2⟩ => ⟨h, (Ev_congr e h).mpr h1, h2⟩⟩
  · obtain ⟨h1, h2, h3⟩ := l1 q
    exact ⟨h1, (Ev_congr e a).mp h2, fun y y1 y2 => h3 y y1 ((Ev_congr e y).mpr y2)⟩
/-- a row's equations worked out: one column cleared but for row k -/
def clP (p : Int) (R u : Nat) (C : Nat → Nat → Int) (k c : Nat) (D : Nat → Nat → Int) : Prop :=
  (∀ i j, i < R → j < u + 1 → 0 ≤ D i j ∧ D i j < p) ∧ (∀ β x, Ev β p R u D x ↔ Ev β p R u C x) ∧ D k c = 1 ∧ (∀ i d, i < R → d < u + 1 → C k d = 0 → D i d = C i d)
theorem clP_sc {p : Int} {R u : Nat} {C : Nat → Nat → Int} {k c : Nat} {sc : Int} (hp : 2 ≤ p) (hk : k < R) (hc : c < u + 1) (hr : ∀ i j, i < R → j < u + 1 → 0 ≤ C i j ∧ C i j < p) (hs : (C k c * sc) % p = 1) : clP p R u C k c (rSc p C k sc (u + 1)) := by
  refine ⟨rSc_rng (by omega) hr, fun β x => Ev_sc hk hs x, by rw [rSc_at hc]; exact hs, fun i d hi hd h0 => ?_⟩
  by_cases e : i = k
  · rw [e, rSc_at hd, h0, Int.zero_mul, Int.zero_emod]
  · exact rSc_ne (fun h => e h.1)
theorem clP_tk {p : Int} {R u : Nat} {C D : Nat → Nat → Int} {k c r : Nat} (hp : 2 ≤ p) (hk : k < R) (hr : r < R) (hne : r ≠ k) (h : clP p R u C k c D) : clP p R u C k c (rTk p D r k (D r c) 0 (u + 1)) := by
  obtain ⟨h1, h2, h3, h4⟩ := h
  refine ⟨rTk_rng (by omega) h1, fun β x => (Ev_tk hr hk hne x).trans (h2 β x), by rw [rTk_ne (by omega)]; exact h3, fun i d hi hd h0 => ?_⟩
  by_cases e : i = r
  · subst e
    have z : D k d = 0 := by rw [h4 k d hk hd h0]; exact h0
    rw [rTk_at (Nat.zero_le _) hd, z, Int.mul_zero, Int.add_zero, Int.emod_eq_of_lt (h1 i d hi hd).1 (h1 i d hi hd).2]
    exact h4 i d hi hd h0
  · rw [rTk_ne (fun q => e q.1)]; exact h4 i d hi hd h0
theorem clP_0 {p : Int} {R u : Nat} {C D : Nat → Nat → Int} {k c r : Nat} (hp : 2 ≤ p) (hc : c < u + 1) (h : clP p R u C k c D) : rTk p D r k (D r c) 0 (u + 1) r c = 0 := by
  rw [rTk_at (Nat.zero_le _) hc]
  exact clr1 (by rw [h.2.2.1, Int.emod_eq_of_lt (by omega) (by omega)])
theorem rSc_0 (p : Int) (C : Nat → Nat → Int) (s : Nat) (v : Int) : rSc p C s v 0 = C := by
  funext i j
  exact rSc_ne (by omega)
theorem rSc_s (p : Int) (C : Nat → Nat → Int) (s : Nat) (v : Int) (b : Nat) : (fun i j => if i = s ∧ j = b then (C s b * v) % p else rSc p C s v b i j) = rSc p C s v (b + 1) := by
  funext i j
  unfold rSc
  by_cases e : i = s ∧ j = b
  · rw [if_pos e, if_pos ⟨e.1, by omega⟩, e.2]
  · rw [if_neg e]
    by_cases e2 : i = s ∧ j < b
    · rw [if_pos e2, if_pos ⟨e2.1, by omega⟩]
    · rw [if_neg e2, if_neg (by omega)]
