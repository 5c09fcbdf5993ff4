/-! ===== the first store, and the cells as both constructors leave them ===== -/
def ad2 (i : Nat) : Nat := [2, 6, 9, 12, 15, 18, 21, 24, 27, 31, 35, 38, 41, 44, 47, 50, 53, 56, 79, 60, 85].getD i 0
def adr (k i : Nat) : Nat := match k with
  | 0 => 0
  | 1 => 1 + 29 * i
  | 2 => ad2 i
  | 3 => ad2 i + 1
  | 4 => ad2 i + 2
  | 5 => 5 + 29 * i
  | 6 => 59
  | 7 => 63
  | 8 => 64
  | 9 => 65
  | 10 => 66 + i
  | 11 => 77
  | 12 => 78
  | 13 => 82
  | 14 => 83
  | 15 => 84
  | 16 => 88
  | 17 => 89
  | 18 => 90
  | 19 => 91
  | 20 => 92 + 2 * i
  | 21 => 93 + 2 * i
  | k => 78 + k
def M0 (k : Nat) : Nat → Nat → Int := match k with
  | 1 => fun _ j => if j = 0 then 7 else 0
  | 2 => fun _ j => if j = 0 then 1 else if j = 2 then 1 else 0
  | 8 => fun _ j => if j = 3 then 2 else 0
  | 12 => fun _ j => if j = 1 then 1 else 0
  | 20 => fun _ j => if j = 0 then -1 else 0
  | 22 => fun _ j => if j = 14 then -1 else 0
  | 23 => fun _ j => if j = 0 then 1 else if j = 2 then 7 else if j = 3 then 1 else 0
  | 33 => fun _ j => if j < 4 then -1 else 0
  | _ => fun _ _ => 0
def csF (g : fG) (b : Nat) : Nat → va_E := moU g b (cu (ldU g b (cu (fun _ => .inr (0, [])) 0 (.inr (6, [.null, .null, .int 0, .null, .null, .null, .null, .null, .null, .null, .null]))) 0 1) 100 (.inr (7, [.null, .null, .null, .int 0, .null, .int 0, .int 0, .null, .null, .int 0, .null, .null, .null, .null, .int 0, .null, .null, .null, .null]))) 100 101
abbrev gF (l : Launch) (D : va_G) (b : Nat) (ca : Nat → ClassId) : fG := (l, D, fun k i => b + adr k i, ca)
set_option maxHeartbeats 4000000 in
set_option maxRecDepth 100000 in
theorem w0_0 {l : Launch} {D : va_G} {b : Nat} {ca : Nat → ClassId} {H : Heap} (hP : va_P D fcls (kW b 115 (csF (gF l D b ca) b)) H) : ∀ i, i < fcnt 0 → va_at D fcls (b + adr 0 i, fcell (gF l D b ca) (M0 0 i) 0 i) H := by
  intro i hi
  have e : i = 0 := by have : i < 1 := hi; omega
  subst e
  exact hP 0 _ (kW_at (by decide))
set_option maxHeartbeats 4000000 in
set_option maxRecDepth 100000 in
theorem w0_1 {l : Launch} {D : va_G} {b : Nat} {ca : Nat → ClassId} {H : Heap} (hP : va_P D fcls (kW b 115 (csF (gF l D b ca) b)) H) : ∀ i, i < fcnt 1 → va_at D fcls (b + adr 1 i, fcell (gF l D b ca) (M0 1 i) 1 i) H := by
  intro i hi
  have hi : i < 2 := hi
  rcases (show i = 0 ∨ i = 1 by omega) with rfl | rfl
  · exact hP 1 _ (kW_at (by decide))
  · exact hP 30 _ (kW_at (by decide))
set_option maxHeartbeats 4000000 in
set_option maxRecDepth 100000 in
theorem w0_2 {l : Launch} {D : va_G} {b : Nat} {ca : Nat → ClassId} {H : Heap} (hP : va_P D fcls (kW b 115 (csF (gF l D b ca) b)) H) : ∀ i, i < fcnt 2 → va_at D fcls (b + adr 2 i, fcell (gF l D b ca) (M0 2 i) 2 i) H := by
  intro i hi
  have hi : i < 21 := hi
  rcases (show i = 0 ∨ i = 1 ∨ i = 2 ∨ i = 3 ∨ i = 4 ∨ i = 5 ∨ i = 6 ∨ i = 7 ∨ i = 8 ∨ i = 9 ∨ i = 10 ∨ i = 11 ∨ i = 12 ∨ i = 13 ∨ i = 14 ∨ i = 15 ∨ i = 16 ∨ i = 17 ∨ i = 18 ∨ i = 19 ∨ i = 20 by omega) with rfl | rfl | rfl | rfl | rfl | rfl | rfl | rfl | rfl | rfl | rfl | rfl | rfl | rfl | rfl | rfl | rfl | rfl | rfl | rfl | rfl
  · exact hP 2 _ (kW_at (by decide))
  · exact hP 6 _ (kW_at (by decide))
  · exact hP 9 _ (kW_at (by decide))
  · exact hP 12 _ (kW_at (by decide))
  · exact hP 15 _ (kW_at (by decide))
  · exact hP 18 _ (kW_at (by decide))
  · exact hP 21 _ (kW_at (by decide))
  · exact hP 24 _ (kW_at (by decide))
  · exact hP 27 _ (kW_at (by decide))
  · exact hP 31 _ (kW_at (by decide))
  · exact hP 35 _ (kW_at (by decide))
  · exact hP 38 _ (kW_at (by decide))
  · exact hP 41 _ (kW_at (by decide))
  · exact hP 44 _ (kW_at (by decide))
  · exact hP 47 _ (kW_at (by decide))
  · exact hP 50 _ (kW_at (by decide))
  · exact hP 53 _ (kW_at (by decide))
  · exact hP 56 _ (kW_at (by decide))
  · exact hP 79 _ (kW_at (by decide))
  · exact hP 60 _ (kW_at (by decide))
  · exact hP 85 _ (kW_at (by decide))
set_option maxHeartbeats 4000000 in
set_option maxRecDepth 100000 in
theorem w0_3 {l : Launch} {D : va_G} {b : Nat} {ca : Nat → ClassId} {H : Heap} (hP : va_P D fcls (kW b 115 (csF (gF l D b ca) b)) H) : ∀ i, i < fcnt 3 → va_at D fcls (b + adr 3 i, fcell (gF l D b ca) (M0 3 i) 3 i) H := by
  intro i hi
  have hi : i < 21 := hi
  rcases (show i = 0 ∨ i = 1 ∨ i = 2 ∨ i = 3 ∨ i = 4 ∨ i = 5 ∨ i = 6 ∨ i = 7 ∨ i = 8 ∨ i = 9 ∨ i = 10 ∨ i = 11 ∨ i = 12 ∨ i = 13 ∨ i = 14 ∨ i = 15 ∨ i = 16 ∨ i = 17 ∨ i = 18 ∨ i = 19 ∨ i = 20 by omega) with rfl | rfl | rfl | rfl | rfl | rfl | rfl | rfl | rfl | rfl | rfl | rfl | rfl | rfl | rfl | rfl | rfl | rfl | rfl | rfl | rfl
  · exact hP 3 _ (kW_at (by decide))
  · exact hP 7 _ (kW_at (by decide))
  · exact hP 10 _ (kW_at (by decide))
  · exact hP 13 _ (kW_at (by decide))
  · exact hP 16 _ (kW_at (by decide))
  · exact hP 19 _ (kW_at (by decide))
  · exact hP 22 _ (kW_at (by decide))
  · exact hP 25 _ (kW_at (by decide))
  · exact hP 28 _ (kW_at (by decide))
  · exact hP 32 _ (kW_at (by decide))
  · exact hP 36 _ (kW_at (by decide))
  · exact hP 39 _ (kW_at (by decide))
  · exact hP 42 _ (kW_at (by decide))
  · exact hP 45 _ (kW_at (by decide))
  · exact hP 48 _ (kW_at (by decide))
  · exact hP 51 _ (kW_at (by decide))
  · exact hP 54 _ (kW_at (by decide))
  · exact hP 57 _ (kW_at (by decide))
  · exact hP 80 _ (kW_at (by decide))
  · exact hP 61 _ (kW_at (by decide))
  · exact hP 86 _ (kW_at (by decide))
set_option maxHeartbeats 4000000 in
set_option maxRecDepth 100000 in
theorem w0_4 {l : Launch} {D : va_G} {b : Nat} {ca : Nat → ClassId} {H : Heap} (hP : va_P D fcls (kW b 115 (csF (gF l D b ca) b)) H) : ∀ i, i < fcnt 4 → va_at D fcls (b + adr 4 i, fcell (gF l D b ca) (M0 4 i) 4 i) H := by
  intro i hi
  have hi : i < 21 := hi
  rcases (show i = 0 ∨ i = 1 ∨ i = 2 ∨ i = 3 ∨ i = 4 ∨ i = 5 ∨ i = 6 ∨ i = 7 ∨ i = 8 ∨ i = 9 ∨ i = 10 ∨ i = 11 ∨ i = 12 ∨ i = 13 ∨ i = 14 ∨ i = 15 ∨ i = 16 ∨ i = 17 ∨ i = 18 ∨ i = 19 ∨ i = 20 by omega) with rfl | rfl | rfl | rfl | rfl | rfl | rfl | rfl | rfl | rfl | rfl | rfl | rfl | rfl | rfl | rfl | rfl | rfl | rfl | rfl | rfl
  · exact hP 4 _ (kW_at (by decide))
  · exact hP 8 _ (kW_at (by decide))
  · exact hP 11 _ (kW_at (by decide))
  · exact hP 14 _ (kW_at (by decide))
  · exact hP 17 _ (kW_at (by decide))
  · exact hP 20 _ (kW_at (by decide))
  · exact hP 23 _ (kW_at (by decide))
  · exact hP 26 _ (kW_at (by decide))
  · exact hP 29 _ (kW_at (by decide))
  · exact hP 33 _ (kW_at (by decide))
  · exact hP 37 _ (kW_at (by decide))
  · exact hP 40 _ (kW_at (by decide))
  · exact hP 43 _ (kW_at (by decide))
  · exact hP 46 _ (kW_at (by decide))
  · exact hP 49 _ (kW_at (by decide))
  · exact hP 52 _ (kW_at (by decide))
  · exact hP 55 _ (kW_at (by decide))
  · exact hP 58 _ (kW_at (by decide))
  · exact hP 81 _ (kW_at (by decide))
  · exact hP 62 _ (kW_at (by decide))
  · exact hP 87 _ (kW_at (by decide))
set_option maxHeartbeats 4000000 in
set_option maxRecDepth 100000 in
theorem w0_6 {l : Launch} {D : va_G} {b : Nat} {ca : Nat → ClassId} {H : Heap} (hP : va_P D fcls (kW b 115 (csF (gF l D b ca) b)) H) : ∀ i, i < fcnt 6 → va_at D fcls (b + adr 6 i, fcell (gF l D b ca) (M0 6 i) 6 i) H := by
  intro i hi
  have e : i = 0 := by have : i < 1 := hi; omega
  subst e
  exact hP 59 _ (kW_at (by decide))
set_option maxHeartbeats 4000000 in
set_option maxRecDepth 100000 in
theorem w0_7 {l : Launch} {D : va_G} {b : Nat} {ca : Nat → ClassId} {H : Heap} (hP : va_P D fcls (kW b 115 (csF (gF l D b ca) b)) H) : ∀ i, i < fcnt 7 → va_at D fcls (b + adr 7 i, fcell (gF l D b ca) (M0 7 i) 7 i) H := by
  intro i hi
  have e : i = 0 := by have : i < 1 := hi; omega
  subst e
  exact hP 63 _ (kW_at (by decide))
set_option maxHeartbeats 4000000 in
set_option maxRecDepth 100000 in
theorem w0_8 {l : Launch} {D : va_G} {b : Nat} {ca : Nat → ClassId} {H : Heap} (hP : va_P D fcls (kW b 115 (csF (gF l D b ca) b)) H) : ∀ i, i < fcnt 8 → va_at D fcls (b + adr 8 i, fcell (gF l D b ca) (M0 8 i) 8 i) H := by
  intro i hi
  have e : i = 0 := by have : i < 1 := hi; omega
  subst e
  exact hP 64 _ (kW_at (by decide))
set_option maxHeartbeats 4000000 in
set_option maxRecDepth 100000 in
theorem w0_10 {l : Launch} {D : va_G} {b : Nat} {ca : Nat → ClassId} {H : Heap} (hP : va_P D fcls (kW b 115 (csF (gF l D b ca) b)) H) : ∀ i, i < fcnt 10 → va_at D fcls (b + adr 10 i, fcell (gF l D b ca) (M0 10 i) 10 i) H := by
  intro i hi
  have hi : i < 11 := hi
  rcases (show i = 0 ∨ i = 1 ∨ i = 2 ∨ i = 3 ∨ i = 4 ∨ i = 5 ∨ i = 6 ∨ i = 7 ∨ i = 8 ∨ i = 9 ∨ i = 10 by omega) with rfl | rfl | rfl | rfl | rfl | rfl | rfl | rfl | rfl | rfl | rfl
  · exact hP 66 _ (kW_at (by decide))
  · exact hP 67 _ (kW_at (by decide))
  · exact hP 68 _ (kW_at (by decide))
  · exact hP 69 _ (kW_at (by decide))
  · exact hP 70 _ (kW_at (by decide))
  · exact hP 71 _ (kW_at (by decide))
  · exact hP 72 _ (kW_at (by decide))
  · exact hP 73 _ (kW_at (by decide))
  · exact hP 74 _ (kW_at (by decide))
  · exact hP 75 _ (kW_at (by decide))
  · exact hP 76 _ (kW_at (by decide))
set_option maxHeartbeats 4000000 in
set_option maxRecDepth 100000 in
theorem w0_11 {l : Launch} {D : va_G} {b : Nat} {ca : Nat → ClassId} {H : Heap} (hP : va_P D fcls (kW b 115 (csF (gF l D b ca) b)) H) : ∀ i, i < fcnt 11 → va_at D fcls (b + adr 11 i, fcell (gF l D b ca) (M0 11 i) 11 i) H := by
  intro i hi
  have e : i = 0 := by have : i < 1 := hi; omega
  subst e
  exact hP 77 _ (kW_at (by decide))
set_option maxHeartbeats 4000000 in
set_option maxRecDepth 100000 in
theorem w0_13 {l : Launch} {D : va_G} {b : Nat} {ca : Nat → ClassId} {H : Heap} (hP : va_P D fcls (kW b 115 (csF (gF l D b ca) b)) H) : ∀ i, i < fcnt 13 → va_at D fcls (b + adr 13 i, fcell (gF l D b ca) (M0 13 i) 13 i) H := by
  intro i hi
  have e : i = 0 := by have : i < 1 := hi; omega
  subst e
  exact hP 82 _ (kW_at (by decide))
set_option maxHeartbeats 4000000 in
set_option maxRecDepth 100000 in
theorem w0_14 {l : Launch} {D : va_G} {b : Nat} {ca : Nat → ClassId} {H : Heap} (hP : va_P D fcls (kW b 115 (csF (gF l D b ca) b)) H) : ∀ i, i < fcnt 14 → va_at D fcls (b + adr 14 i, fcell (gF l D b ca) (M0 14 i) 14 i) H := by
  intro i hi
  have e : i = 0 := by have : i < 1 := hi; omega
  subst e
  exact hP 83 _ (kW_at (by decide))
set_option maxHeartbeats 4000000 in
set_option maxRecDepth 100000 in
theorem w0_15 {l : Launch} {D : va_G} {b : Nat} {ca : Nat → ClassId} {H : Heap} (hP : va_P D fcls (kW b 115 (csF (gF l D b ca) b)) H) : ∀ i, i < fcnt 15 → va_at D fcls (b + adr 15 i, fcell (gF l D b ca) (M0 15 i) 15 i) H := by
  intro i hi
  have e : i = 0 := by have : i < 1 := hi; omega
  subst e
  exact hP 84 _ (kW_at (by decide))
set_option maxHeartbeats 4000000 in
set_option maxRecDepth 100000 in
theorem w0_16 {l : Launch} {D : va_G} {b : Nat} {ca : Nat → ClassId} {H : Heap} (hP : va_P D fcls (kW b 115 (csF (gF l D b ca) b)) H) : ∀ i, i < fcnt 16 → va_at D fcls (b + adr 16 i, fcell (gF l D b ca) (M0 16 i) 16 i) H := by
  intro i hi
  have e : i = 0 := by have : i < 1 := hi; omega
  subst e
  exact hP 88 _ (kW_at (by decide))
set_option maxHeartbeats 4000000 in
set_option maxRecDepth 100000 in
theorem w0_17 {l : Launch} {D : va_G} {b : Nat} {ca : Nat → ClassId} {H : Heap} (hP : va_P D fcls (kW b 115 (csF (gF l D b ca) b)) H) : ∀ i, i < fcnt 17 → va_at D fcls (b + adr 17 i, fcell (gF l D b ca) (M0 17 i) 17 i) H := by
  intro i hi
  have e : i = 0 := by have : i < 1 := hi; omega
  subst e
  exact hP 89 _ (kW_at (by decide))
set_option maxHeartbeats 4000000 in
set_option maxRecDepth 100000 in
theorem w0_18 {l : Launch} {D : va_G} {b : Nat} {ca : Nat → ClassId} {H : Heap} (hP : va_P D fcls (kW b 115 (csF (gF l D b ca) b)) H) : ∀ i, i < fcnt 18 → va_at D fcls (b + adr 18 i, fcell (gF l D b ca) (M0 18 i) 18 i) H := by
  intro i hi
  have e : i = 0 := by have : i < 1 := hi; omega
  subst e
  exact hP 90 _ (kW_at (by decide))
set_option maxHeartbeats 4000000 in
set_option maxRecDepth 100000 in
theorem w0_20 {l : Launch} {D : va_G} {b : Nat} {ca : Nat → ClassId} {H : Heap} (hP : va_P D fcls (kW b 115 (csF (gF l D b ca) b)) H) : ∀ i, i < fcnt 20 → va_at D fcls (b + adr 20 i, fcell (gF l D b ca) (M0 20 i) 20 i) H := by
  intro i hi
  have hi : i < 4 := hi
  rcases (show i = 0 ∨ i = 1 ∨ i = 2 ∨ i = 3 by omega) with rfl | rfl | rfl | rfl
  · exact hP 92 _ (kW_at (by decide))
  · exact hP 94 _ (kW_at (by decide))
  · exact hP 96 _ (kW_at (by decide))
  · exact hP 98 _ (kW_at (by decide))
set_option maxHeartbeats 4000000 in
set_option maxRecDepth 100000 in
theorem w0_21 {l : Launch} {D : va_G} {b : Nat} {ca : Nat → ClassId} {H : Heap} (hP : va_P D fcls (kW b 115 (csF (gF l D b ca) b)) H) : ∀ i, i < fcnt 21 → va_at D fcls (b + adr 21 i, fcell (gF l D b ca) (M0 21 i) 21 i) H := by
  intro i hi
  have hi : i < 4 := hi
  rcases (show i = 0 ∨ i = 1 ∨ i = 2 ∨ i = 3 by omega) with rfl | rfl | rfl | rfl
  · exact hP 93 _ (kW_at (by decide))
  · exact hP 95 _ (kW_at (by decide))
  · exact hP 97 _ (kW_at (by decide))
  · exact hP 99 _ (kW_at (by decide))
set_option maxHeartbeats 4000000 in
set_option maxRecDepth 100000 in
theorem w0_22 {l : Launch} {D : va_G} {b : Nat} {ca : Nat → ClassId} {H : Heap} (hP : va_P D fcls (kW b 115 (csF (gF l D b ca) b)) H) : ∀ i, i < fcnt 22 → va_at D fcls (b + adr 22 i, fcell (gF l D b ca) (M0 22 i) 22 i) H := by
  intro i hi
  have e : i = 0 := by have : i < 1 := hi; omega
  subst e
  exact hP 100 _ (kW_at (by decide))
set_option maxHeartbeats 4000000 in
set_option maxRecDepth 100000 in
theorem w0_24 {l : Launch} {D : va_G} {b : Nat} {ca : Nat → ClassId} {H : Heap} (hP : va_P D fcls (kW b 115 (csF (gF l D b ca) b)) H) : ∀ i, i < fcnt 24 → va_at D fcls (b + adr 24 i, fcell (gF l D b ca) (M0 24 i) 24 i) H := by
  intro i hi
  have e : i = 0 := by have : i < 1 := hi; omega
  subst e
  exact hP 102 _ (kW_at (by decide))
set_option maxHeartbeats 4000000 in
set_option maxRecDepth 100000 in
theorem w0_25 {l : Launch} {D : va_G} {b : Nat} {ca : Nat → ClassId} {H : Heap} (hP : va_P D fcls (kW b 115 (csF (gF l D b ca) b)) H) : ∀ i, i < fcnt 25 → va_at D fcls (b + adr 25 i, fcell (gF l D b ca) (M0 25 i) 25 i) H := by
  intro i hi
  have e : i = 0 := by have : i < 1 := hi; omega
  subst e
  exact hP 103 _ (kW_at (by decide))
set_option maxHeartbeats 4000000 in
set_option maxRecDepth 100000 in
theorem w0_26 {l : Launch} {D : va_G} {b : Nat} {ca : Nat → ClassId} {H : Heap} (hP : va_P D fcls (kW b 115 (csF (gF l D b ca) b)) H) : ∀ i, i < fcnt 26 → va_at D fcls (b + adr 26 i, fcell (gF l D b ca) (M0 26 i) 26 i) H := by
  intro i hi
  have e : i = 0 := by have : i < 1 := hi; omega
  subst e
  exact hP 104 _ (kW_at (by decide))
set_option maxHeartbeats 4000000 in
set_option maxRecDepth 100000 in
theorem w0_27 {l : Launch} {D : va_G} {b : Nat} {ca : Nat → ClassId} {H : Heap} (hP : va_P D fcls (kW b 115 (csF (gF l D b ca) b)) H) : ∀ i, i < fcnt 27 → va_at D fcls (b + adr 27 i, fcell (gF l D b ca) (M0 27 i) 27 i) H := by
  intro i hi
  have e : i = 0 := by have : i < 1 := hi; omega
  subst e
  exact hP 105 _ (kW_at (by decide))
set_option maxHeartbeats 4000000 in
set_option maxRecDepth 100000 in
theorem w0_28 {l : Launch} {D : va_G} {b : Nat} {ca : Nat → ClassId} {H : Heap} (hP : va_P D fcls (kW b 115 (csF (gF l D b ca) b)) H) : ∀ i, i < fcnt 28 → va_at D fcls (b + adr 28 i, fcell (gF l D b ca) (M0 28 i) 28 i) H := by
  intro i hi
  have e : i = 0 := by have : i < 1 := hi; omega
  subst e
  exact hP 106 _ (kW_at (by decide))
set_option maxHeartbeats 4000000 in
set_option maxRecDepth 100000 in
theorem w0_29 {l : Launch} {D : va_G} {b : Nat} {ca : Nat → ClassId} {H : Heap} (hP : va_P D fcls (kW b 115 (csF (gF l D b ca) b)) H) : ∀ i, i < fcnt 29 → va_at D fcls (b + adr 29 i, fcell (gF l D b ca) (M0 29 i) 29 i) H := by
  intro i hi
  have e : i = 0 := by have : i < 1 := hi; omega
  subst e
  exact hP 107 _ (kW_at (by decide))
set_option maxHeartbeats 4000000 in
set_option maxRecDepth 100000 in
theorem w0_30 {l : Launch} {D : va_G} {b : Nat} {ca : Nat → ClassId} {H : Heap} (hP : va_P D fcls (kW b 115 (csF (gF l D b ca) b)) H) : ∀ i, i < fcnt 30 → va_at D fcls (b + adr 30 i, fcell (gF l D b ca) (M0 30 i) 30 i) H := by
  intro i hi
  have e : i = 0 := by have : i < 1 := hi; omega
  subst e
  exact hP 108 _ (kW_at (by decide))
set_option maxHeartbeats 4000000 in
set_option maxRecDepth 100000 in
theorem w0_31 {l : Launch} {D : va_G} {b : Nat} {ca : Nat → ClassId} {H : Heap} (hP : va_P D fcls (kW b 115 (csF (gF l D b ca) b)) H) : ∀ i, i < fcnt 31 → va_at D fcls (b + adr 31 i, fcell (gF l D b ca) (M0 31 i) 31 i) H := by
  intro i hi
  have e : i = 0 := by have : i < 1 := hi; omega
  subst e
  exact hP 109 _ (kW_at (by decide))
set_option maxHeartbeats 4000000 in
set_option maxRecDepth 100000 in
theorem w0_32 {l : Launch} {D : va_G} {b : Nat} {ca : Nat → ClassId} {H : Heap} (hP : va_P D fcls (kW b 115 (csF (gF l D b ca) b)) H) : ∀ i, i < fcnt 32 → va_at D fcls (b + adr 32 i, fcell (gF l D b ca) (M0 32 i) 32 i) H := by
  intro i hi
  have e : i = 0 := by have : i < 1 := hi; omega
  subst e
  exact hP 110 _ (kW_at (by decide))
set_option maxHeartbeats 4000000 in
set_option maxRecDepth 100000 in
theorem w0_34 {l : Launch} {D : va_G} {b : Nat} {ca : Nat → ClassId} {H : Heap} (hP : va_P D fcls (kW b 115 (csF (gF l D b ca) b)) H) : ∀ i, i < fcnt 34 → va_at D fcls (b + adr 34 i, fcell (gF l D b ca) (M0 34 i) 34 i) H := by
  intro i hi
  have e : i = 0 := by have : i < 1 := hi; omega
  subst e
  exact hP 112 _ (kW_at (by decide))
set_option maxHeartbeats 4000000 in
set_option maxRecDepth 100000 in
theorem w0_35 {l : Launch} {D : va_G} {b : Nat} {ca : Nat → ClassId} {H : Heap} (hP : va_P D fcls (kW b 115 (csF (gF l D b ca) b)) H) : ∀ i, i < fcnt 35 → va_at D fcls (b + adr 35 i, fcell (gF l D b ca) (M0 35 i) 35 i) H := by
  intro i hi
  have e : i = 0 := by have : i < 1 := hi; omega
  subst e
  exact hP 113 _ (kW_at (by decide))
set_option maxHeartbeats 4000000 in
set_option maxRecDepth 100000 in
theorem w0_36 {l : Launch} {D : va_G} {b : Nat} {ca : Nat → ClassId} {H : Heap} (hP : va_P D fcls (kW b 115 (csF (gF l D b ca) b)) H) : ∀ i, i < fcnt 36 → va_at D fcls (b + adr 36 i, fcell (gF l D b ca) (M0 36 i) 36 i) H := by
  intro i hi
  have e : i = 0 := by have : i < 1 := hi; omega
  subst e
  exact hP 114 _ (kW_at (by decide))
