/-! ===== odds: sums over sets ===== -/
def sN : Nat → (Nat → Nat) → Nat
  | 0, _ => 0
  | n + 1, g => sN n g + g n
theorem sN_c {g h : Nat → Nat} : ∀ {n : Nat}, (∀ i, i < n → g i = h i) → sN n g = sN n h
  | 0, _ => rfl
  | n + 1, e => by
    unfold sN
    rw [sN_c (fun i hi => e i (by omega)), e n (by omega)]
theorem sN_split (m : Nat) (g : Nat → Nat) : ∀ n : Nat, sN (m + n) g = sN m g + sN n (fun i => g (m + i))
  | 0 => rfl
  | n + 1 => by
    show sN (m + n) g + g (m + n) = sN m g + (sN n (fun i => g (m + i)) + g (m + n))
    rw [sN_split m g n, Nat.add_assoc]
theorem sN_mul (c : Nat) (g : Nat → Nat) : ∀ n : Nat, sN n (fun i => c * g i) = c * sN n g
  | 0 => rfl
  | n + 1 => by
    unfold sN
    rw [sN_mul c g n, Nat.mul_add]
theorem sN_add (g h : Nat → Nat) : ∀ n : Nat, sN n (fun i => g i + h i) = sN n g + sN n h
  | 0 => rfl
  | n + 1 => by
    show sN n (fun i => g i + h i) + (g n + h n) = (sN n g + g n) + (sN n h + h n)
    rw [sN_add g h n]
    omega
theorem sN_0 : ∀ {n : Nat} {g : Nat → Nat}, (∀ i, i < n → g i = 0) → sN n g = 0
  | 0, _, _ => rfl
  | n + 1, g, h => by
    unfold sN
    rw [sN_0 (fun i hi => h i (by omega)), h n (by omega)]
theorem sN_one {F P : Nat} {h : Nat → Nat} : ∀ {n : Nat}, P < n → sN n (fun v => (if P = v then F else 0) * h v) = F * h P
  | 0, hP => absurd hP (by omega)
  | n + 1, hP => by
    show sN n (fun v => (if P = v then F else 0) * h v) + (if P = n then F else 0) * h n = F * h P
    by_cases e : P = n
    · rw [sN_0 (fun i hi => by rw [if_neg (by omega), Nat.zero_mul]), if_pos e, e, Nat.zero_add]
    · rw [sN_one (n := n) (by omega), if_neg e, Nat.zero_mul, Nat.add_zero]
theorem sN_le {g : Nat → Nat} {B : Nat} : ∀ {n : Nat}, (∀ i, i < n → g i ≤ B) → sN n g ≤ n * B
  | 0, _ => by unfold sN; omega
  | n + 1, h => by
    have h1 := sN_le (n := n) (fun i hi => h i (by omega))
    have h2 := h n (by omega)
    unfold sN
    rw [Nat.succ_mul]
    omega
theorem bit_0 {s l : Nat} (h : s < 2 ^ l) : bit s l = 0 := by
  unfold bit
  rw [Nat.div_eq_of_lt h]
theorem bit_1 {s l : Nat} (h : s < 2 ^ l) : bit (2 ^ l + s) l = 1 := by
  unfold bit
  have hp : 0 < 2 ^ l := Nat.pow_pos (by decide)
  rw [Nat.add_div_left _ hp, Nat.div_eq_of_lt h]
theorem bit_lo {s l j : Nat} (h : j < l) : bit (2 ^ l + s) j = bit s j := by
  unfold bit
  have hp : 0 < 2 ^ j := Nat.pow_pos (by decide)
  have e : 2 ^ l = 2 ^ j * (2 * 2 ^ (l - j - 1)) := by
    rw [← Nat.pow_succ', ← Nat.pow_add]
    congr 1
    omega
  rw [e, Nat.mul_add_div hp]
  omega
theorem bit_2 (s j : Nat) : bit s j = 0 ∨ bit s j = 1 := by
  unfold bit
  omega
theorem bit_hi {s l j : Nat} (h : s < 2 ^ l) (hj : l ≤ j) : bit s j = 0 := bit_0 (Nat.lt_of_lt_of_le h (Nat.pow_le_pow_right (by decide) hj))
def up0 (L : Nat → Int) (k : Nat) : Nat → Int := fun j => if j = k then 0 else L j
def Gc (f : (Nat → Int) → Nat) (c : Nat) (pl : Nat → Nat) : Nat → (Nat → Int) → Nat
  | 0, L => f L
  | b + 1, L => (10 - c) * Gc f c pl b L + c * Gc f c pl b (up0 L (pl b))
def tw (pl : Nat → Nat) (s : Nat) : Nat → (Nat → Int) → (Nat → Int)
  | 0, L => L
  | b + 1, L => tw pl s b (if bit s b = 1 then up0 L (pl b) else L)
def wt (c s : Nat) : Nat → Nat
  | 0 => 1
  | b + 1 => wt c s b * (if bit s b = 1 then c else 10 - c)
theorem wt_lo {c s l : Nat} : ∀ {b : Nat}, b ≤ l → wt c (2 ^ l + s) b = wt c s b
  | 0, _ => rfl
  | b + 1, h => by
    unfold wt
    rw [wt_lo (b := b) (by omega), bit_lo (by omega)]
theorem tw_lo {pl : Nat → Nat} {s l : Nat} : ∀ {b : Nat} (L : Nat → Int), b ≤ l → tw pl (2 ^ l + s) b L = tw pl s b L
  | 0, _, _ => rfl
  | b + 1, L, h => by
    unfold tw
    rw [bit_lo (by omega), tw_lo (b := b) _ (by omega)]
theorem sum_G {f : (Nat → Int) → Nat} {c : Nat} {pl : Nat → Nat} : ∀ (l : Nat) (L : Nat → Int), sN (2 ^ l) (fun s => wt c s l * f (tw pl s l L)) = Gc f c pl l L
  | 0, L => by
    show 0 + 1 * f L = f L
    omega
  | l + 1, L => by
    rw [show 2 ^ (l + 1) = 2 ^ l + 2 ^ l by rw [Nat.pow_succ]; omega, sN_split]
    have e1 : sN (2 ^ l) (fun s => wt c s (l + 1) * f (tw pl s (l + 1) L)) = (10 - c) * Gc f c pl l L := by
      rw [← sum_G l L, ← sN_mul]
      refine sN_c (fun s hs => ?_)
      show wt c s l * (if bit s l = 1 then c else 10 - c) * f (tw pl s l (if bit s l = 1 then up0 L (pl l) else L)) = _
      rw [bit_0 hs, if_neg (by decide), if_neg (by decide), Nat.mul_comm (wt c s l) (10 - c), Nat.mul_assoc]
    have e2 : sN (2 ^ l) (fun s => wt c (2 ^ l + s) (l + 1) * f (tw pl (2 ^ l + s) (l + 1) L)) = c * Gc f c pl l (up0 L (pl l)) := by
      rw [← sum_G l (up0 L (pl l)), ← sN_mul]
      refine sN_c (fun s hs => ?_)
      show wt c (2 ^ l + s) l * (if bit (2 ^ l + s) l = 1 then c else 10 - c) * f (tw pl (2 ^ l + s) l (if bit (2 ^ l + s) l = 1 then up0 L (pl l) else L)) = _
      rw [bit_1 hs, if_pos rfl, if_pos rfl, wt_lo (Nat.le_refl l), tw_lo _ (Nat.le_refl l), Nat.mul_comm (wt c s l) c, Nat.mul_assoc]
    rw [e1, e2]
    rfl
theorem tw_at {pl : Nat → Nat} {s : Nat} : ∀ {b : Nat} (L : Nat → Int), (∀ i j, i < b → j < b → pl i = pl j → i = j) → (∀ i, i < b → tw pl s b L (pl i) = if bit s i = 1 then 0 else L (pl i)) ∧ ∀ j, (∀ i, i < b → pl i ≠ j) → tw pl s b L j = L j
  | 0, L, _ => ⟨fun i hi => absurd hi (by omega), fun j _ => rfl⟩
  | b + 1, L, hinj => by
    have ih := tw_at (pl := pl) (s := s) (b := b) (if bit s b = 1 then up0 L (pl b) else L) (fun i j hi hj => hinj i j (by omega) (by omega))
    constructor
    · intro i hi
      show tw pl s b _ (pl i) = _
      by_cases e : i = b
      · subst e
        rw [ih.2 (pl i) (fun j hj q => by have := hinj j i (by omega) (by omega) q; omega)]
        split
        · unfold up0
          rw [if_pos rfl]
        · rfl
      · rw [ih.1 i (by omega)]
        split
        · rfl
        · split
          · unfold up0
            rw [if_neg (fun q => by have := hinj i b (by omega) (by omega) q; omega)]
          · rfl
    · intro j hj
      show tw pl s b _ j = _
      rw [ih.2 j (fun i hi => hj i (by omega))]
      split
      · unfold up0
        rw [if_neg (fun q => hj b (by omega) q.symm)]
      · rfl
theorem Gc_congr {f : (Nat → Int) → Nat} {c : Nat} {pl : Nat → Nat} {lo n : Nat} (hf : ∀ L L' : Nat → Int, (∀ j, lo ≤ j → j < n → L j = L' j) → f L = f L') : ∀ (b : Nat) (L L' : Nat → Int), (∀ j, lo ≤ j → j < n → L j = L' j) → Gc f c pl b L = Gc f c pl b L'
  | 0, L, L', h => hf L L' h
  | b + 1, L, L', h => by
    unfold Gc
    rw [Gc_congr hf b L L' h, Gc_congr hf b (up0 L (pl b)) (up0 L' (pl b)) (fun j h1 h2 => by unfold up0; rw [h j h1 h2])]
/-- how many places below k matter -/
def cn (lo : Nat) (L : Nat → Int) : Nat → Nat
  | 0 => 0
  | k + 1 => if lo ≤ k ∧ L k ≠ 0 then cn lo L k + 1 else cn lo L k
theorem cn_le (lo : Nat) (L : Nat → Int) : ∀ k : Nat, cn lo L k ≤ k
  | 0 => Nat.le_refl 0
  | k + 1 => by
    have := cn_le lo L k
    unfold cn
    split <;> omega
theorem cn_mono (lo : Nat) (L : Nat → Int) {k : Nat} : ∀ {n : Nat}, k ≤ n → cn lo L k ≤ cn lo L n
  | 0, h => by rw [show k = 0 by omega]; exact Nat.le_refl _
  | n + 1, h => by
    by_cases e : k = n + 1
    · rw [e]; exact Nat.le_refl _
    · have := cn_mono lo L (k := k) (n := n) (by omega)
      show _ ≤ (if lo ≤ n ∧ L n ≠ 0 then _ else _)
      split <;> omega
theorem cn_lt {lo : Nat} {L : Nat → Int} {k n : Nat} (h : k < n) (hk : lo ≤ k ∧ L k ≠ 0) : cn lo L k < cn lo L n := by
  have h1 := cn_mono lo L (k := k + 1) (n := n) h
  have h2 : cn lo L (k + 1) = cn lo L k + 1 := by
    show (if lo ≤ k ∧ L k ≠ 0 then _ else _) = _
    rw [if_pos hk]
  omega
theorem cn_c {lo : Nat} {L L' : Nat → Int} : ∀ {k : Nat}, (∀ j, j < k → L j = L' j) → cn lo L k = cn lo L' k
  | 0, _ => rfl
  | k + 1, h => by
    unfold cn
    rw [cn_c (fun j hj => h j (by omega)), h k (by omega)]
/-- places told in their order -/
def plS (lo : Nat) (L : Nat → Int) (n : Nat) (pl : Nat → Nat) : Prop := ∀ k, k < n → lo ≤ k → L k ≠ 0 → pl (cn lo L k) = k
theorem plS_sur {lo : Nat} {L : Nat → Int} : ∀ {n : Nat} {pl : Nat → Nat}, plS lo L n pl → ∀ i, i < cn lo L n → ∃ k, k < n ∧ lo ≤ k ∧ L k ≠ 0 ∧ cn lo L k = i
  | 0, pl, _, i, hi => absurd hi (Nat.not_lt_zero i)
  | n + 1, pl, h, i, hi => by
    by_cases e : lo ≤ n ∧ L n ≠ 0
    · have e2 : cn lo L (n + 1) = cn lo L n + 1 := by
        show (if lo ≤ n ∧ L n ≠ 0 then _ else _) = _
        rw [if_pos e]
      by_cases q : i = cn lo L n
      · exact ⟨n, by omega, e.1, e.2, q.symm⟩
      · obtain ⟨k, k1, k2, k3, k4⟩ := plS_sur (n := n) (pl := pl) (fun k hk => h k (by omega)) i (by omega)
        exact ⟨k, by omega, k2, k3, k4⟩
    · have e2 : cn lo L (n + 1) = cn lo L n := by
        show (if lo ≤ n ∧ L n ≠ 0 then _ else _) = _
        rw [if_neg e]
      obtain ⟨k, k1, k2, k3, k4⟩ := plS_sur (n := n) (pl := pl) (fun k hk => h k (by omega)) i (by omega)
      exact ⟨k, by omega, k2, k3, k4⟩
theorem plS_inj {lo : Nat} {L : Nat → Int} {n : Nat} {pl : Nat → Nat} (h : plS lo L n pl) : ∀ i j, i < cn lo L n → j < cn lo L n → pl i = pl j → i = j := by
  intro i j hi hj e
  obtain ⟨a, a1, a2, a3, rfl⟩ := plS_sur h i hi
  obtain ⟨b, b1, b2, b3, rfl⟩ := plS_sur h j hj
  rw [h a a1 a2 a3, h b b1 b2 b3] at e
  rw [e]
theorem plS_lt {lo : Nat} {L : Nat → Int} {n : Nat} {pl : Nat → Nat} (h : plS lo L n pl) {i : Nat} (hi : i < cn lo L n) : pl i < n ∧ lo ≤ pl i := by
  obtain ⟨a, a1, a2, a3, rfl⟩ := plS_sur h i hi
  rw [h a a1 a2 a3]
  exact ⟨a1, a2⟩
theorem G_main {f : (Nat → Int) → Nat} {c lo n : Nat} {pl : Nat → Nat} {L : Nat → Int} (hc : c ≤ 10) (hf : ∀ L L' : Nat → Int, (∀ j, lo ≤ j → j < n → L j = L' j) → f L = f L') (hpl : plS lo L n pl) :
    ∀ (k : Nat) (L' : Nat → Int), k ≤ n → (∀ j, j < k → L' j = L j) → Gc f c (fun i => i) k L' = 10 ^ (k - cn lo L k) * Gc f c pl (cn lo L k) L'
  | 0, L', _, _ => by
    show f L' = 10 ^ (0 - 0) * f L'
    omega
  | k + 1, L', hk, hL => by
    have hck := cn_le lo L k
    show (10 - c) * Gc f c (fun i => i) k L' + c * Gc f c (fun i => i) k (up0 L' k) = _
    rw [G_main hc hf hpl k L' (by omega) (fun j hj => hL j (by omega)), G_main hc hf hpl k (up0 L' k) (by omega) (fun j hj => by unfold up0; rw [if_neg (by omega)]; exact hL j (by omega))]
    have hL1 : ∀ a b : Nat, (10 - c) * (a * b) = a * ((10 - c) * b) := fun a b => Nat.mul_left_comm _ _ _
    have hL2 : ∀ a b : Nat, c * (a * b) = a * (c * b) := fun a b => Nat.mul_left_comm _ _ _
    rw [hL1, hL2, ← Nat.mul_add]
    by_cases e : lo ≤ k ∧ L k ≠ 0
    · have e2 : cn lo L (k + 1) = cn lo L k + 1 := by
        show (if lo ≤ k ∧ L k ≠ 0 then _ else _) = _
        rw [if_pos e]
      rw [e2, show k + 1 - (cn lo L k + 1) = k - cn lo L k by omega]
      show _ = _ * ((10 - c) * Gc f c pl (cn lo L k) L' + c * Gc f c pl (cn lo L k) (up0 L' (pl (cn lo L k))))
      rw [hpl k (by omega) e.1 e.2]
    · have e2 : cn lo L (k + 1) = cn lo L k := by
        show (if lo ≤ k ∧ L k ≠ 0 then _ else _) = _
        rw [if_neg e]
      have e3 : Gc f c pl (cn lo L k) (up0 L' k) = Gc f c pl (cn lo L k) L' := by
        by_cases q : lo ≤ k
        · have hz : L k = 0 := Classical.byContradiction fun z => e ⟨q, z⟩
          have : up0 L' k = L' := by
            funext j
            unfold up0
            split
            · rename_i h
              rw [h, hL k (by omega), hz]
            · rfl
          rw [this]
        · exact Gc_congr hf _ _ _ (fun j h1 h2 => by unfold up0; rw [if_neg (by omega)])
      rw [e2, e3, ← Nat.add_mul, show 10 - c + c = 10 by omega, show k + 1 - cn lo L k = (k - cn lo L k) + 1 by omega, Nat.pow_succ, Nat.mul_assoc]
theorem Gc_le {f : (Nat → Int) → Nat} {c : Nat} {pl : Nat → Nat} (hc : c ≤ 10) (hf : ∀ L, f L ≤ 1) : ∀ (b : Nat) (L : Nat → Int), Gc f c pl b L ≤ 10 ^ b
  | 0, L => hf L
  | b + 1, L => by
    have h1 := Gc_le (pl := pl) hc hf b L
    have h2 := Gc_le (pl := pl) hc hf b (up0 L (pl b))
    unfold Gc
    have h3 := Nat.mul_le_mul_left (10 - c) h1
    have h4 := Nat.mul_le_mul_left c h2
    have h5 : (10 - c) * 10 ^ b + c * 10 ^ b = 10 * 10 ^ b := by rw [← Nat.add_mul, show 10 - c + c = 10 by omega]
    rw [Nat.pow_succ, Nat.mul_comm (10 ^ b) 10]
    omega
theorem Gc_one {c : Nat} {pl : Nat → Nat} (hc : c ≤ 10) : ∀ (b : Nat) (L : Nat → Int), Gc (fun _ => 1) c pl b L = 10 ^ b
  | 0, L => rfl
  | b + 1, L => by
    unfold Gc
    rw [Gc_one hc b L, Gc_one hc b _, ← Nat.add_mul, show 10 - c + c = 10 by omega, Nat.pow_succ, Nat.mul_comm]
theorem popk_le (s : Nat) : ∀ l : Nat, popk l s ≤ l
  | 0 => Nat.le_refl 0
  | l + 1 => by
    have := popk_le s l
    have := bit_2 s l
    unfold popk
    omega
theorem popk_hi {s l : Nat} (h : s < 2 ^ l) : ∀ k : Nat, popk (l + k) s = popk l s
  | 0 => rfl
  | k + 1 => by
    show popk (l + k) s + bit s (l + k) = _
    rw [popk_hi h k, bit_hi h (by omega), Nat.add_zero]
theorem wt_p {c s : Nat} : ∀ l : Nat, wt c s l = c ^ popk l s * (10 - c) ^ (l - popk l s)
  | 0 => rfl
  | l + 1 => by
    have hl := popk_le s l
    unfold wt popk
    rw [wt_p l]
    rcases bit_2 s l with e | e
    · rw [e, if_neg (by decide), Nat.add_zero, show l + 1 - popk l s = (l - popk l s) + 1 by omega, Nat.pow_succ, Nat.mul_assoc]
    · rw [e, if_pos rfl, show l + 1 - (popk l s + 1) = l - popk l s by omega, Nat.pow_succ, Nat.mul_assoc, Nat.mul_comm _ c, Nat.mul_assoc]
/-- how many sets of so many places make it 0, of the first m sets -/
def cz (f : (Nat → Int) → Nat) (pl : Nat → Nat) (l : Nat) (L : Nat → Int) (m v : Nat) : Nat := sN m (fun s => if popk 11 s = v then f (tw pl s l L) else 0)
theorem cz_le {f : (Nat → Int) → Nat} {pl : Nat → Nat} {l : Nat} {L : Nat → Int} {m v : Nat} (hf : ∀ L, f L ≤ 1) : cz f pl l L m v ≤ m := by
  have := sN_le (g := fun s => if popk 11 s = v then f (tw pl s l L) else 0) (B := 1) (n := m) (fun i _ => by
    show (if popk 11 i = v then f (tw pl i l L) else 0) ≤ 1
    split
    · exact hf _
    · omega)
  rw [Nat.mul_one] at this
  exact this
theorem ex_sum {l : Nat} {P F h : Nat → Nat} : ∀ m : Nat, (∀ s, s < m → P s < l) → sN l (fun v => sN m (fun s => if P s = v then F s else 0) * h v) = sN m (fun s => F s * h (P s))
  | 0, _ => sN_0 (fun i _ => by show 0 * _ = 0; rw [Nat.zero_mul])
  | m + 1, hP => by
    show sN l (fun v => (sN m (fun s => if P s = v then F s else 0) + (if P m = v then F m else 0)) * h v) = sN m (fun s => F s * h (P s)) + F m * h (P m)
    rw [← ex_sum m (fun s hs => hP s (by omega)), ← sN_one (F := F m) (P := P m) (h := h) (n := l) (hP m (by omega)), ← sN_add]
    exact sN_c (fun i _ => Nat.add_mul _ _ _)
theorem weigh {f : (Nat → Int) → Nat} {c : Nat} {pl : Nat → Nat} {l : Nat} {L : Nat → Int} (hl : l ≤ 11) : sN (l + 1) (fun v => cz f pl l L (2 ^ l) v * (c ^ v * (10 - c) ^ (l - v))) = Gc f c pl l L := by
  have hpp : ∀ s, s < 2 ^ l → popk 11 s = popk l s := fun s hs => by
    have := popk_hi hs (11 - l)
    rw [show l + (11 - l) = 11 by omega] at this
    exact this
  unfold cz
  rw [ex_sum (l := l + 1) (P := popk 11) (F := fun s => f (tw pl s l L)) (h := fun v => c ^ v * (10 - c) ^ (l - v)) (2 ^ l) (fun s hs => by rw [hpp s hs]; have := popk_le s l; omega), ← sum_G l L]
  refine sN_c (fun s hs => ?_)
  show f (tw pl s l L) * (c ^ popk 11 s * (10 - c) ^ (l - popk 11 s)) = _
  rw [hpp s hs, wt_p l, Nat.mul_comm]
theorem frac_same {a b t : Nat} (ht : 0 < t) (x : Nat) (hx : x = a ∨ x = b) : x * t / Nat.gcd (a * t) (b * t) = x / Nat.gcd a b := by
  rw [Nat.gcd_mul_right, Nat.mul_div_mul_right _ _ ht]
theorem wt_le {c s : Nat} (hc : c ≤ 10) : ∀ l : Nat, wt c s l ≤ 10 ^ l
  | 0 => Nat.le_refl 1
  | l + 1 => by
    unfold wt
    rw [Nat.pow_succ]
    refine Nat.mul_le_mul (wt_le hc l) ?_
    split <;> omega
/-- is it singular -/
def zf (p : Int) (w : Nat) (kd : Int) (L : Nat → Int) : Nat := if dt w (ent p w kd L) % p = 0 then 1 else 0
theorem zf_1 (p : Int) (w : Nat) (kd : Int) (L : Nat → Int) : zf p w kd L ≤ 1 := by
  unfold zf
  split <;> omega
/-- from which place on the kind uses the line -/
def loK (kd : Int) (w : Nat) : Nat := if kd = 0 ∨ kd = 1 then 0 else w - 1
theorem plc_lo {w : Nat} {kd : Int} {i j : Nat} (hk : kd = 0 ∨ kd = 1 ∨ kd = 2 ∨ kd = 3 ∨ kd = 4) (hi : i < w) (hj : j < w) : loK kd w ≤ plc w kd i j := by
  unfold loK
  rcases hk with rfl | rfl | rfl | rfl | rfl
  · rw [if_pos (by omega)]; exact Nat.zero_le _
  · rw [if_pos (by omega)]; exact Nat.zero_le _
  · rw [if_neg (by omega), plc_24 (Or.inl rfl)]; exact Nat.le_add_right _ _
  · rw [if_neg (by omega), plc_3]; exact Nat.le_add_right _ _
  · rw [if_neg (by omega), plc_24 (Or.inr rfl)]; exact Nat.le_add_right _ _
theorem zf_c {p : Int} {w : Nat} {kd : Int} (hk : kd = 0 ∨ kd = 1 ∨ kd = 2 ∨ kd = 3 ∨ kd = 4) : ∀ L L' : Nat → Int, (∀ j, loK kd w ≤ j → j < 2 * w - 1 → L j = L' j) → zf p w kd L = zf p w kd L' := by
  intro L L' h
  unfold zf
  rw [dt_congr (fun i j hi hj => ?_)]
  unfold ent
  rw [h _ (plc_lo hk hi hj) (plc_lt hi hj)]
