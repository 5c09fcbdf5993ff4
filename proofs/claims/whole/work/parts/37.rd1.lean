/-! ===== texts ===== -/
def sk0 (tp : Nat → Int) (n : Nat) : Nat → Nat → Nat
  | 0, q => q
  | f + 1, q => if q < n ∧ tp q = 32 then sk0 tp n f (q + 1) else q
def sk (tp : Nat → Int) (n q : Nat) : Nat := sk0 tp n (n - q) q
theorem sk_step {tp : Nat → Int} {n q : Nat} (h : q < n) (h2 : tp q = 32) : sk tp n q = sk tp n (q + 1) := by
  unfold sk
  rw [show n - q = n - (q + 1) + 1 by omega]
  show (if q < n ∧ tp q = 32 then _ else _) = _
  rw [if_pos ⟨h, h2⟩]
theorem sk_stop {tp : Nat → Int} {n q : Nat} (h : ¬ (q < n ∧ tp q = 32)) : sk tp n q = q := by
  unfold sk
  by_cases e : q < n
  · rw [show n - q = n - (q + 1) + 1 by omega]
    show (if q < n ∧ tp q = 32 then _ else _) = _
    rw [if_neg h]
  · rw [show n - q = 0 by omega]
    rfl
theorem sk_all {tp : Nat → Int} {n : Nat} : ∀ (k q : Nat), q + k = n → q ≤ sk tp n q ∧ sk tp n q ≤ n ∧ ¬ (sk tp n q < n ∧ tp (sk tp n q) = 32)
  | 0, q, h => by
    rw [sk_stop (by omega)]
    omega
  | k + 1, q, h => by
    by_cases e : q < n ∧ tp q = 32
    · rw [sk_step e.1 e.2]
      have := sk_all (tp := tp) (n := n) k (q + 1) (by omega)
      exact ⟨by omega, this.2⟩
    · rw [sk_stop e]
      exact ⟨Nat.le_refl q, by omega, e⟩
theorem sk_le {tp : Nat → Int} {n q : Nat} (h : q ≤ n) : q ≤ sk tp n q ∧ sk tp n q ≤ n := by
  have := sk_all (tp := tp) (n := n) (n - q) q (by omega)
  exact ⟨this.1, this.2.1⟩
theorem sk_sk {tp : Nat → Int} {n q : Nat} (h : q ≤ n) : sk tp n (sk tp n q) = sk tp n q := sk_stop (sk_all (tp := tp) (n := n) (n - q) q (by omega)).2.2
abbrev isD (tp : Nat → Int) (n q : Nat) : Prop := q < n ∧ 48 ≤ tp q ∧ tp q ≤ 57
abbrev isC (tp : Nat → Int) (n q : Nat) (c : Int) : Prop := q < n ∧ tp q = c
def lr (tp : Nat → Int) (n q : Nat) (e : Int) : Int := if q < n then tp q else e
theorem lr_in {tp : Nat → Int} {n q : Nat} {e : Int} (h : q < n) : lr tp n q e = tp q := by unfold lr; rw [if_pos h]
theorem lr_out {tp : Nat → Int} {n q : Nat} {e : Int} (h : ¬ q < n) : lr tp n q e = e := by unfold lr; rw [if_neg h]
theorem lr_eq {tp : Nat → Int} {n q : Nat} {e c : Int} (he : e ≠ c) : lr tp n q e = c ↔ isC tp n q c := by
  unfold lr
  split
  · rename_i h; exact ⟨fun k => ⟨h, k⟩, fun k => k.2⟩
  · rename_i h; exact ⟨fun k => absurd k he, fun k => absurd k.1 h⟩
def nE (tp : Nat → Int) (n s : Nat) : Nat := if isD tp n (s + 1) then s + 2 else s + 1
def nV (tp : Nat → Int) (n s : Nat) : Int := if isD tp n (s + 1) then 10 * (tp s - 48) + tp (s + 1) - 48 else tp s - 48
def nF (tp : Nat → Int) (n : Nat) (p : Int) (q : Nat) : Option Nat := if ¬ isD tp n (sk tp n q) ∨ p ≤ nV tp n (sk tp n q) then some (sk tp n q) else if isD tp n (nE tp n (sk tp n q)) then some (nE tp n (sk tp n q)) else none
def nx (tp : Nat → Int) (n q : Nat) : Nat := sk tp n (nE tp n (sk tp n q))
def rwp (tp : Nat → Int) (n : Nat) (p : Int) : Nat → Nat → Option Nat × Nat × Nat
  | 0, q => (none, 0, q)
  | f + 1, q => if (nF tp n p q).isSome then (nF tp n p q, 0, q) else if f ≠ 0 ∧ isC tp n (nx tp n q) 44 then ((rwp tp n p f (nx tp n q + 1)).1, (rwp tp n p f (nx tp n q + 1)).2.1 + 1, (rwp tp n p f (nx tp n q + 1)).2.2) else (none, 1, nx tp n q)
def vlp (tp : Nat → Int) (n : Nat) : Nat → Nat → Int
  | q, 0 => nV tp n (sk tp n q)
  | q, i + 1 => vlp tp n (nx tp n q + 1) i
theorem rwp_f {tp : Nat → Int} {n : Nat} {p : Int} {f q x : Nat} (h : nF tp n p q = some x) : rwp tp n p (f + 1) q = (some x, 0, q) := by
  unfold rwp
  rw [h]
  rfl
theorem rwp_c {tp : Nat → Int} {n : Nat} {p : Int} {f q : Nat} (h : nF tp n p q = none) (h1 : f ≠ 0) (h2 : isC tp n (nx tp n q) 44) : rwp tp n p (f + 1) q = ((rwp tp n p f (nx tp n q + 1)).1, (rwp tp n p f (nx tp n q + 1)).2.1 + 1, (rwp tp n p f (nx tp n q + 1)).2.2) := by
  show (if (nF tp n p q).isSome then _ else _) = _
  rw [h, if_neg (by decide), if_pos ⟨h1, h2⟩]
theorem rwp_e {tp : Nat → Int} {n : Nat} {p : Int} {f q : Nat} (h : nF tp n p q = none) (h1 : ¬ (f ≠ 0 ∧ isC tp n (nx tp n q) 44)) : rwp tp n p (f + 1) q = (none, 1, nx tp n q) := by
  show (if (nF tp n p q).isSome then _ else _) = _
  rw [h, if_neg (by decide), if_neg h1]
theorem nF_1 {tp : Nat → Int} {n : Nat} {p : Int} {q : Nat} (h : ¬ isD tp n (sk tp n q)) : nF tp n p q = some (sk tp n q) := by
  unfold nF
  rw [if_pos (Or.inl h)]
theorem nF_2 {tp : Nat → Int} {n : Nat} {p : Int} {q : Nat} (h : p ≤ nV tp n (sk tp n q)) : nF tp n p q = some (sk tp n q) := by
  unfold nF
  rw [if_pos (Or.inr h)]
theorem nF_3 {tp : Nat → Int} {n : Nat} {p : Int} {q : Nat} (h1 : isD tp n (sk tp n q)) (h2 : nV tp n (sk tp n q) < p) (h3 : isD tp n (nE tp n (sk tp n q))) : nF tp n p q = some (nE tp n (sk tp n q)) := by
  unfold nF
  rw [if_neg (by omega), if_pos h3]
theorem nF_0 {tp : Nat → Int} {n : Nat} {p : Int} {q : Nat} (h1 : isD tp n (sk tp n q)) (h2 : nV tp n (sk tp n q) < p) (h3 : ¬ isD tp n (nE tp n (sk tp n q))) : nF tp n p q = none := by
  unfold nF
  rw [if_neg (by omega), if_neg h3]
theorem nF_n {tp : Nat → Int} {n : Nat} {p : Int} {q : Nat} (h : nF tp n p q = none) : isD tp n (sk tp n q) ∧ nV tp n (sk tp n q) < p ∧ ¬ isD tp n (nE tp n (sk tp n q)) := by
  unfold nF at h
  split at h
  · cases h
  · split at h
    · cases h
    · rename_i h1 h2
      exact ⟨by omega, by omega, h2⟩
theorem nE_b {tp : Nat → Int} {n s : Nat} (h : isD tp n s) : s < nE tp n s ∧ nE tp n s ≤ n := by
  unfold nE
  split <;> omega
theorem nV_b {tp : Nat → Int} {n s : Nat} (h : isD tp n s) : 0 ≤ nV tp n s ∧ nV tp n s ≤ 99 := by
  unfold nV
  split <;> omega
theorem nx_b {tp : Nat → Int} {n : Nat} {p : Int} {q : Nat} (h : nF tp n p q = none) : nx tp n q ≤ n := by
  have h1 := nE_b (nF_n h).1
  exact (sk_le h1.2).2
theorem rwp_b {tp : Nat → Int} {n : Nat} {p : Int} : ∀ (f q : Nat), q ≤ n → (rwp tp n p (f + 1) q).1 = none → 1 ≤ (rwp tp n p (f + 1) q).2.1 ∧ (rwp tp n p (f + 1) q).2.1 ≤ f + 1 ∧ (rwp tp n p (f + 1) q).2.2 ≤ n ∧ ∀ i, i < (rwp tp n p (f + 1) q).2.1 → 0 ≤ vlp tp n q i ∧ vlp tp n q i < p := by
  intro f
  induction f with
  | zero =>
    intro q hq hr
    cases hF : nF tp n p q with
    | some x => rw [rwp_f hF] at hr; cases hr
    | none =>
      rw [rwp_e hF (by omega)]
      refine ⟨Nat.le_refl _, Nat.le_refl _, nx_b hF, fun i hi => ?_⟩
      have e : i = 0 := by have : i < 1 := hi; omega
      subst e
      exact ⟨(nV_b (nF_n hF).1).1, (nF_n hF).2.1⟩
  | succ f ih =>
    intro q hq hr
    cases hF : nF tp n p q with
    | some x => rw [rwp_f hF] at hr; cases hr
    | none =>
      by_cases hc : isC tp n (nx tp n q) 44
      · rw [rwp_c hF (by omega) hc] at hr ⊢
        obtain ⟨h1, h2, h3, h4⟩ := ih (nx tp n q + 1) (by omega) hr
        refine ⟨by show 1 ≤ _ + 1; omega, by show _ + 1 ≤ _; omega, h3, fun i hi => ?_⟩
        cases i with
        | zero => exact ⟨(nV_b (nF_n hF).1).1, (nF_n hF).2.1⟩
        | succ i => exact h4 i (by have : i + 1 < _ + 1 := hi; omega)
      · rw [rwp_e hF (fun q => hc q.2)]
        refine ⟨Nat.le_refl _, by show 1 ≤ _; omega, nx_b hF, fun i hi => ?_⟩
        have e : i = 0 := by have : i < 1 := hi; omega
        subst e
        exact ⟨(nV_b (nF_n hF).1).1, (nF_n hF).2.1⟩
def kb (c : Int) : Int := if c = 115 then 0 else if c = 98 then 1 else if c = 101 then 2 else if c = 114 then 3 else if c = 110 then 4 else -1
theorem kb_b (c : Int) : -1 ≤ kb c ∧ kb c ≤ 4 := by
  unfold kb
  repeat' split
  all_goals omega
/-! a whole text -/
abbrev tS0 (tp : Nat → Int) (n : Nat) : Nat := sk tp n 0
abbrev tR1 (tp : Nat → Int) (n : Nat) (p : Int) : Option Nat × Nat × Nat := rwp tp n p 11 (tS0 tp n + 1)
abbrev tW (tp : Nat → Int) (n : Nat) (p : Int) : Nat := ((tR1 tp n p).2.1 + 1) / 2
abbrev tR2 (tp : Nat → Int) (n : Nat) (p : Int) : Option Nat × Nat × Nat := rwp tp n p (tW tp n p) ((tR1 tp n p).2.2 + 1)
def mtF (tp : Nat → Int) (n : Nat) (p : Int) : Option Nat :=
  if kb (lr tp n (tS0 tp n) (-1)) < 0 then some (tS0 tp n)
  else if (tR1 tp n p).1.isSome then (tR1 tp n p).1
  else if (tR1 tp n p).2.1 % 2 = 0 then some (tR1 tp n p).2.2
  else if isC tp n (tR1 tp n p).2.2 61 then (if (tR2 tp n p).1.isSome then (tR2 tp n p).1 else if (tR2 tp n p).2.1 ≠ tW tp n p then some (tR2 tp n p).2.2 else if (tR2 tp n p).2.2 < n then some (tR2 tp n p).2.2 else none)
  else if (tR1 tp n p).2.2 < n then some (tR1 tp n p).2.2 else none
/-! ===== the reader ===== -/
def rS (M : fM) (q : Nat) (v : Int) : fM := fup (fup M 6 0 3 (q : Int)) 6 0 5 v
theorem rS_p (M : fM) (q q' : Nat) (v : Int) : fup (rS M q v) 6 0 3 (q' : Int) = rS M q' v := by
  funext a b c
  simp only [rS, fup]
  grind (splits := 30)
theorem rS_v (M : fM) (q : Nat) (v v' : Int) : fup (rS M q v) 6 0 5 v' = rS M q v' := by
  funext a b c
  simp only [rS, fup]
  grind (splits := 30)
theorem rS_w (M : fM) (q : Nat) (v : Int) (k i j : Nat) (x : Int) (h : k ≠ 6) : fup (rS M q v) k i j x = rS (fup M k i j x) q v := by
  funext a b c
  simp only [rS, fup]
  grind (splits := 30)
theorem rS_rp (M : fM) (q : Nat) (v : Int) : rS M q v 6 0 3 = (q : Int) := by
  unfold rS
  rw [fup_ne (by omega), fup_eq]
theorem rS_rv (M : fM) (q : Nat) (v : Int) : rS M q v 6 0 5 = v := fup_eq
theorem rS_ne {M : fM} {q : Nat} {v : Int} {k a b : Nat} (h : ¬ (k = 6 ∧ a = 0 ∧ (b = 3 ∨ b = 5))) : rS M q v k a b = M k a b := by
  unfold rS
  rw [fup_ne (by omega), fup_ne (by omega)]
theorem rS_7 (M : fM) (q : Nat) (v : Int) : rS M q v 7 0 = M 7 0 := funext fun b => rS_ne (by omega)
theorem rS_self {M : fM} {q : Nat} (h : M 6 0 3 = (q : Int)) : rS M q (M 6 0 5) = M := by
  funext a b c
  simp only [rS, fup]
  grind (splits := 30)
theorem rS_rS (M : fM) (q q' : Nat) (v v' : Int) : rS (rS M q v) q' v' = rS M q' v' := by
  funext a b c
  simp only [rS, fup]
  grind (splits := 30)
set_option maxHeartbeats 4000000 in
set_option maxRecDepth 100000 in
theorem c_letterHere {g : fG} {M : fM} {ln : Nat} (hl : M 6 0 0 = (ln : Int)) (hn7 : ln ≤ 70) {q : Nat} {v : Int} :
    fCi g Y_X2_letterHere [vr 6 0] (rS M q v) (fun z M' => z = lr (M 7 0) ln q (-1) ∧ M' = rS M q v) := by
  refine fCi_of _ [some (vr 6 0)] (by decide) (Nat.le_of_ble_eq_true rfl) rfl (fun h => h) ?_
  refine st_aload_n dX2_letterHere_0 rfl ?_
  refine st_get dX2_letterHere_1 fl_X2_26 rfl rfl rfl ?_
  refine fAt_v (x' := (q : Int)) (rS_rp M q v) ?_
  refine st_if_lt 30 dX2_letterHere_4 (by decide) (fun h4 => ?_) (fun h4 => ?_)
  · skip
    exact absurd h4 (by omega)
  · skip
    refine st_aload_n dX2_letterHere_7 rfl ?_
    refine st_get dX2_letterHere_8 fl_X2_26 rfl rfl rfl ?_
    refine fAt_v (x' := (q : Int)) (rS_rp M q v) ?_
    refine st_aload_n dX2_letterHere_11 rfl ?_
    refine st_get dX2_letterHere_12 fl_X2_9 rfl rfl rfl ?_
    refine fAt_v (x' := (ln : Int)) ((rS_ne (by omega)).trans hl) ?_
    refine st_icmp_ge 30 dX2_letterHere_15 (by decide) (fun h15 => ?_) (fun h15 => ?_)
    · skip
      refine st_iconst dX2_letterHere_30 (by decide) ?_
      refine st_ireturn dX2_letterHere_31 rfl ⟨_, rfl, ⟨?_, rfl⟩⟩
      first | exact (lr_in (by omega)).symm | exact (lr_out (by omega)).symm
    · skip
      refine st_aload_n dX2_letterHere_18 rfl ?_
      refine st_getr (i' := 0) dX2_letterHere_19 fl_X2_22 rfl rfl rfl (fun _ => by decide) ?_
      refine st_aload_n dX2_letterHere_22 rfl ?_
      refine st_get dX2_letterHere_23 fl_X2_26 rfl rfl rfl ?_
      refine fAt_v (x' := (q : Int)) (rS_rp M q v) ?_
      refine st_iald (j := q) dX2_letterHere_26 rfl rfl rfl rfl (by omega) ?_
      refine fAt_v (x' := M 7 0 q) (rS_ne (by omega)) ?_
      refine st_goto 31 dX2_letterHere_27 (by decide) ?_
      refine st_ireturn dX2_letterHere_31 rfl ⟨_, rfl, ⟨?_, rfl⟩⟩
      first | exact (lr_in (by omega)).symm | exact (lr_out (by omega)).symm
set_option maxHeartbeats 4000000 in
set_option maxRecDepth 100000 in
theorem c_faultHere {g : fG} {M : fM} {q : Nat} {v : Int} (hq : q ≤ 100) :
    fCi g Y_X2_faultHere [vr 6 0] (rS M q v) (fun z M' => z = -20 - (q : Int) ∧ M' = rS M q v) := by
  refine fCi_of _ [some (vr 6 0)] (by decide) (Nat.le_of_ble_eq_true rfl) rfl (fun h => h) ?_
  refine st_bipush dX2_faultHere_0 (by decide) ?_
  refine st_aload_n dX2_faultHere_2 rfl ?_
  refine st_get dX2_faultHere_3 fl_X2_26 rfl rfl rfl ?_
  refine fAt_v (x' := (q : Int)) (rS_rp M q v) ?_
  refine st_isub dX2_faultHere_6 (by omega) ?_
  refine st_ireturn dX2_faultHere_7 rfl ⟨_, rfl, ⟨rfl, rfl⟩⟩
set_option maxHeartbeats 4000000 in
set_option maxRecDepth 100000 in
theorem skip_l {g : fG} {M : fM} {ln : Nat} (hl : M 6 0 0 = (ln : Int)) (hn7 : ln ≤ 70) {v : Int} :
    ∀ (n q : Nat), q + n = ln → fAt g Y_X2_skipBlanks 0 [some (vr 6 0)] [] (rS M q v) (fN (fun M' => M' = rS M (sk (M 7 0) ln q) v)) := by
  intro n
  induction n with
  | zero =>
    intro q hm
    refine st_aload_n dX2_skipBlanks_0 rfl ?_
    refine st_get dX2_skipBlanks_1 fl_X2_26 rfl rfl rfl ?_
    refine fAt_v (x' := (q : Int)) (rS_rp M q v) ?_
    refine st_aload_n dX2_skipBlanks_4 rfl ?_
    refine st_get dX2_skipBlanks_5 fl_X2_9 rfl rfl rfl ?_
    refine fAt_v (x' := (ln : Int)) ((rS_ne (by omega)).trans hl) ?_
    refine st_icmp_ge 33 dX2_skipBlanks_8 (by decide) (fun h8 => ?_) (fun h8 => ?_)
    · skip
      refine st_return dX2_skipBlanks_33 rfl ⟨rfl, (by rw [sk_stop (by omega)])⟩
    · skip
      exact absurd h8 (by omega)
  | succ n ih =>
    intro q hm
    refine st_aload_n dX2_skipBlanks_0 rfl ?_
    refine st_get dX2_skipBlanks_1 fl_X2_26 rfl rfl rfl ?_
    refine fAt_v (x' := (q : Int)) (rS_rp M q v) ?_
    refine st_aload_n dX2_skipBlanks_4 rfl ?_
    refine st_get dX2_skipBlanks_5 fl_X2_9 rfl rfl rfl ?_
    refine fAt_v (x' := (ln : Int)) ((rS_ne (by omega)).trans hl) ?_
    refine st_icmp_ge 33 dX2_skipBlanks_8 (by decide) (fun h8 => ?_) (fun h8 => ?_)
    · skip
      exact absurd h8 (by omega)
    · skip
      refine st_aload_n dX2_skipBlanks_11 rfl ?_
      refine st_callVi [] [] dX2_skipBlanks_12 vl_X2_38 rfl rfl rfl rfl (Nat.le_of_ble_eq_true rfl) (by decide) (c_letterHere (q := q) (v := v) hl hn7) (fun zl Ml ql => ?_)
      obtain ⟨rfl, h0l⟩ := ql
      subst Ml
      refine st_bipush dX2_skipBlanks_15 (by decide) ?_
      refine st_icmp_ne 33 dX2_skipBlanks_17 (by decide) (fun h17 => ?_) (fun h17 => ?_)
      · skip
        refine st_return dX2_skipBlanks_33 rfl ⟨rfl, (by rw [sk_stop (fun hc => h17 ((lr_eq (by decide)).mpr hc))])⟩
      · skip
        refine st_aload_n dX2_skipBlanks_20 rfl ?_
        refine st_dup dX2_skipBlanks_21 rfl ?_
        refine st_get dX2_skipBlanks_22 fl_X2_26 rfl rfl rfl ?_
        refine fAt_v (x' := (q : Int)) (rS_rp M q v) ?_
        refine st_iconst dX2_skipBlanks_25 (by decide) ?_
        refine st_iadd dX2_skipBlanks_26 (by omega) ?_
        refine st_put dX2_skipBlanks_27 fl_X2_26 fp_X2_3.1 (Or.inl fp_X2_3.2) rfl rfl rfl ?_
        refine st_goto 0 dX2_skipBlanks_30 (by decide) ?_
        have hc := (lr_eq (by decide)).mp h17
        rw [sk_step hc.1 hc.2]
        refine fAt_m (rS_p M q (q + 1) v) ?_
        exact ih (q + 1) (by omega)
set_option maxHeartbeats 4000000 in
set_option maxRecDepth 100000 in
theorem c_skipBlanks {g : fG} {M : fM} {ln : Nat} (hl : M 6 0 0 = (ln : Int)) (hn7 : ln ≤ 70) {q : Nat} {v : Int} (hq : q ≤ ln) :
    fCv g Y_X2_skipBlanks [vr 6 0] (rS M q v) (fun M' => M' = rS M (sk (M 7 0) ln q) v) := by
  refine fCv_of _ [some (vr 6 0)] (by decide) (Nat.le_of_ble_eq_true rfl) rfl (fun h => h) ?_
  exact skip_l hl hn7 (ln - q) q (by omega)
set_option maxHeartbeats 4000000 in
set_option maxRecDepth 100000 in
theorem c_isDigitHere {g : fG} {M : fM} {ln : Nat} (hl : M 6 0 0 = (ln : Int)) (hn7 : ln ≤ 70) {q : Nat} {v : Int} :
    fCi g Y_X2_isDigitHere [vr 6 0] (rS M q v) (fun z M' => ((z = 1 ∧ isD (M 7 0) ln q) ∨ (z = 0 ∧ ¬ isD (M 7 0) ln q)) ∧ M' = rS M q v) := by
  refine fCi_of _ [some (vr 6 0)] (by decide) (Nat.le_of_ble_eq_true rfl) rfl (fun h => h) ?_
  refine st_aload_n dX2_isDigitHere_0 rfl ?_
  refine st_callVi [] [] dX2_isDigitHere_1 vl_X2_38 rfl rfl rfl rfl (Nat.le_of_ble_eq_true rfl) (by decide) (c_letterHere (q := q) (v := v) hl hn7) (fun zl Ml ql => ?_)
  obtain ⟨rfl, h0l⟩ := ql
  subst Ml
  refine st_bipush dX2_isDigitHere_4 (by decide) ?_
  refine st_icmp_lt 22 dX2_isDigitHere_6 (by decide) (fun h6 => ?_) (fun h6 => ?_)
  · skip
    refine st_iconst dX2_isDigitHere_22 (by decide) ?_
    refine st_zreturn dX2_isDigitHere_23 rfl (by omega) ⟨_, rfl, ⟨?_, rfl⟩⟩
    unfold lr at *
    by_cases e : q < ln
    · first
      | (simp only [if_pos e] at h6 h15; omega)
      | (simp only [if_pos e] at h6; omega)
    · first
      | (simp only [if_neg e] at h6 h15; omega)
      | (simp only [if_neg e] at h6; omega)
  · skip
    refine st_aload_n dX2_isDigitHere_9 rfl ?_
    refine st_callVi [] [] dX2_isDigitHere_10 vl_X2_38 rfl rfl rfl rfl (Nat.le_of_ble_eq_true rfl) (by decide) (c_letterHere (q := q) (v := v) hl hn7) (fun zm Mm qm => ?_)
    obtain ⟨rfl, h0m⟩ := qm
    subst Mm
    refine st_bipush dX2_isDigitHere_13 (by decide) ?_
    refine st_icmp_gt 22 dX2_isDigitHere_15 (by decide) (fun h15 => ?_) (fun h15 => ?_)
    · skip
      refine st_iconst dX2_isDigitHere_22 (by decide) ?_
      refine st_zreturn dX2_isDigitHere_23 rfl (by omega) ⟨_, rfl, ⟨?_, rfl⟩⟩
      unfold lr at *
      by_cases e : q < ln
      · first
        | (simp only [if_pos e] at h6 h15; omega)
        | (simp only [if_pos e] at h6; omega)
      · first
        | (simp only [if_neg e] at h6 h15; omega)
        | (simp only [if_neg e] at h6; omega)
    · skip
      refine st_iconst dX2_isDigitHere_18 (by decide) ?_
      refine st_goto 23 dX2_isDigitHere_19 (by decide) ?_
      refine st_zreturn dX2_isDigitHere_23 rfl (by omega) ⟨_, rfl, ⟨?_, rfl⟩⟩
      unfold lr at *
      by_cases e : q < ln
      · first
        | (simp only [if_pos e] at h6 h15; omega)
        | (simp only [if_pos e] at h6; omega)
      · first
        | (simp only [if_neg e] at h6 h15; omega)
        | (simp only [if_neg e] at h6; omega)
set_option maxHeartbeats 4000000 in
set_option maxRecDepth 100000 in
theorem c_readNumber {g : fG} {M : fM} {ln : Nat} (hl : M 6 0 0 = (ln : Int)) (hn7 : ln ≤ 70) {q : Nat} {v : Int} {p : Int} (hpr : M 6 0 4 = p) (hq : q ≤ ln) :
    fCi g Y_X2_readNumber [vr 6 0] (rS M q v) (fun z M' => (∃ x q' v', nF (M 7 0) ln p q = some x ∧ z = -20 - (x : Int) ∧ M' = rS M q' v') ∨ (nF (M 7 0) ln p q = none ∧ z = 0 ∧ M' = rS M (nx (M 7 0) ln q) (nV (M 7 0) ln (sk (M 7 0) ln q)))) := by
  refine fCi_of _ [some (vr 6 0), none, none] (by decide) (Nat.le_of_ble_eq_true rfl) rfl (fun h => h) ?_
  refine st_aload_n dX2_readNumber_0 rfl ?_
  refine st_callVv [] [] dX2_readNumber_1 vl_X2_35 rfl rfl rfl rfl (Nat.le_of_ble_eq_true rfl) (by decide) (c_skipBlanks hl hn7 hq) (fun M0 q0 => ?_)
  subst q0
  have hsk := sk_le (tp := M 7 0) hq
  refine st_aload_n dX2_readNumber_4 rfl ?_
  refine st_get dX2_readNumber_5 fl_X2_26 rfl rfl rfl ?_
  refine fAt_v (x' := (((sk (M 7 0) ln q) : Nat) : Int)) (rS_rp _ _ _) ?_
  refine st_istore_n (ls' := [some (vr 6 0), some (vi (((sk (M 7 0) ln q) : Nat) : Int)), none]) dX2_readNumber_8 (by decide) rfl rfl ?_
  refine st_aload_n dX2_readNumber_9 rfl ?_
  refine st_callVi [] [] dX2_readNumber_10 vl_X2_73 rfl rfl rfl rfl (Nat.le_of_ble_eq_true rfl) (by decide) (c_isDigitHere (q := (sk (M 7 0) ln q)) (v := v) hl hn7) (fun zd Md qd => ?_)
  obtain ⟨qd, h0d⟩ := qd
  subst Md
  rcases qd with ⟨rfl, dd⟩ | ⟨rfl, dd⟩
  · skip
    refine st_if_ne 21 dX2_readNumber_13 (by decide) (fun h13 => ?_) (fun h13 => ?_)
    · skip
      refine st_aload_n dX2_readNumber_21 rfl ?_
      refine st_iconst dX2_readNumber_22 (by decide) ?_
      refine st_put dX2_readNumber_23 fl_X2_32 fp_X2_5.1 (Or.inl fp_X2_5.2) rfl rfl rfl ?_
      refine fAt_m (rS_v M _ _ _) ?_
      refine st_iconst dX2_readNumber_26 (by decide) ?_
      refine st_istore_n (ls' := [some (vr 6 0), some (vi (((sk (M 7 0) ln q) : Nat) : Int)), some (vi 0)]) dX2_readNumber_27 (by decide) rfl rfl ?_
      refine st_iload_n dX2_readNumber_28 rfl ?_
      refine st_iconst dX2_readNumber_29 (by decide) ?_
      refine st_icmp_ge 75 dX2_readNumber_30 (by decide) (fun h30 => ?_) (fun h30 => ?_)
      · skip
        exact absurd h30 (by omega)
      · skip
        refine st_aload_n dX2_readNumber_33 rfl ?_
        refine st_callVi [] [] dX2_readNumber_34 vl_X2_73 rfl rfl rfl rfl (Nat.le_of_ble_eq_true rfl) (by decide) (c_isDigitHere (q := (sk (M 7 0) ln q)) (v := 0) hl hn7) (fun zd0 Md0 qd0 => ?_)
        obtain ⟨qd0, h0d0⟩ := qd0
        subst Md0
        rcases qd0 with ⟨rfl, dd0⟩ | ⟨rfl, dd0⟩
        · skip
          refine st_if_eq 75 dX2_readNumber_37 (by decide) (fun h37 => ?_) (fun h37 => ?_)
          · skip
            exact absurd h37 (by decide)
          · skip
            refine st_aload_n dX2_readNumber_40 rfl ?_
            refine st_bipush dX2_readNumber_41 (by decide) ?_
            refine st_aload_n dX2_readNumber_43 rfl ?_
            refine st_get dX2_readNumber_44 fl_X2_32 rfl rfl rfl ?_
            refine fAt_v (x' := 0) (rS_rv _ _ _) ?_
            refine st_imul dX2_readNumber_47 (by omega) ?_
            refine st_aload_n dX2_readNumber_48 rfl ?_
            refine st_callVi [] [vi (10 * 0), vr 6 0] dX2_readNumber_49 vl_X2_38 rfl rfl rfl rfl (Nat.le_of_ble_eq_true rfl) (by decide) (c_letterHere (q := (sk (M 7 0) ln q)) (v := 0) hl hn7) (fun zl0 Ml0 ql0 => ?_)
            obtain ⟨rfl, h0l0⟩ := ql0
            subst Ml0
            refine fAt_v (x' := M 7 0 (sk (M 7 0) ln q)) (lr_in dd0.1) ?_
            refine st_iadd dX2_readNumber_52 (by omega) ?_
            refine st_bipush dX2_readNumber_53 (by decide) ?_
            refine st_isub dX2_readNumber_55 (by omega) ?_
            refine fAt_v (x' := (M 7 0 (sk (M 7 0) ln q) - 48)) (by omega) ?_
            refine st_put dX2_readNumber_56 fl_X2_32 fp_X2_5.1 (Or.inl fp_X2_5.2) rfl rfl rfl ?_
            refine fAt_m (rS_v M _ _ _) ?_
            refine st_aload_n dX2_readNumber_59 rfl ?_
            refine st_dup dX2_readNumber_60 rfl ?_
            refine st_get dX2_readNumber_61 fl_X2_26 rfl rfl rfl ?_
            refine fAt_v (x' := (((sk (M 7 0) ln q) : Nat) : Int)) (rS_rp _ _ _) ?_
            refine st_iconst dX2_readNumber_64 (by decide) ?_
            refine st_iadd dX2_readNumber_65 (by omega) ?_
            refine st_put dX2_readNumber_66 fl_X2_26 fp_X2_3.1 (Or.inl fp_X2_3.2) rfl rfl rfl ?_
            refine fAt_m (rS_p M _ ((sk (M 7 0) ln q) + 1) _) ?_
            refine st_iinc (ls' := [some (vr 6 0), some (vi (((sk (M 7 0) ln q) : Nat) : Int)), some (vi (0 + 1))]) dX2_readNumber_69 rfl (by omega) (by decide) rfl rfl ?_
            refine st_goto 28 dX2_readNumber_72 (by decide) ?_
            refine st_iload_n dX2_readNumber_28 rfl ?_
            refine st_iconst dX2_readNumber_29 (by decide) ?_
            refine st_icmp_ge 75 dX2_readNumber_30 (by decide) (fun h30 => ?_) (fun h30 => ?_)
            · skip
              exact absurd h30 (by omega)
            · skip
              refine st_aload_n dX2_readNumber_33 rfl ?_
              refine st_callVi [] [] dX2_readNumber_34 vl_X2_73 rfl rfl rfl rfl (Nat.le_of_ble_eq_true rfl) (by decide) (c_isDigitHere (q := ((sk (M 7 0) ln q) + 1)) (v := (M 7 0 (sk (M 7 0) ln q) - 48)) hl hn7) (fun zd1 Md1 qd1 => ?_)
              obtain ⟨qd1, h0d1⟩ := qd1
              subst Md1
              rcases qd1 with ⟨rfl, dd1⟩ | ⟨rfl, dd1⟩
              · skip
                refine st_if_eq 75 dX2_readNumber_37 (by decide) (fun h37 => ?_) (fun h37 => ?_)
                · skip
                  exact absurd h37 (by decide)
                · skip
                  refine st_aload_n dX2_readNumber_40 rfl ?_
                  refine st_bipush dX2_readNumber_41 (by decide) ?_
                  refine st_aload_n dX2_readNumber_43 rfl ?_
                  refine st_get dX2_readNumber_44 fl_X2_32 rfl rfl rfl ?_
                  refine fAt_v (x' := (M 7 0 (sk (M 7 0) ln q) - 48)) (rS_rv _ _ _) ?_
                  refine st_imul dX2_readNumber_47 (by omega) ?_
                  refine st_aload_n dX2_readNumber_48 rfl ?_
                  refine st_callVi [] [vi (10 * (M 7 0 (sk (M 7 0) ln q) - 48)), vr 6 0] dX2_readNumber_49 vl_X2_38 rfl rfl rfl rfl (Nat.le_of_ble_eq_true rfl) (by decide) (c_letterHere (q := ((sk (M 7 0) ln q) + 1)) (v := (M 7 0 (sk (M 7 0) ln q) - 48)) hl hn7) (fun zl1 Ml1 ql1 => ?_)
                  obtain ⟨rfl, h0l1⟩ := ql1
                  subst Ml1
                  refine fAt_v (x' := M 7 0 ((sk (M 7 0) ln q) + 1)) (lr_in dd1.1) ?_
                  refine st_iadd dX2_readNumber_52 (by omega) ?_
                  refine st_bipush dX2_readNumber_53 (by decide) ?_
                  refine st_isub dX2_readNumber_55 (by omega) ?_
                  refine fAt_v (x' := (10 * (M 7 0 (sk (M 7 0) ln q) - 48) + M 7 0 ((sk (M 7 0) ln q) + 1) - 48)) (by omega) ?_
                  refine st_put dX2_readNumber_56 fl_X2_32 fp_X2_5.1 (Or.inl fp_X2_5.2) rfl rfl rfl ?_
                  refine fAt_m (rS_v M _ _ _) ?_
                  refine st_aload_n dX2_readNumber_59 rfl ?_
                  refine st_dup dX2_readNumber_60 rfl ?_
                  refine st_get dX2_readNumber_61 fl_X2_26 rfl rfl rfl ?_
                  refine fAt_v (x' := ((((sk (M 7 0) ln q) + 1) : Nat) : Int)) (rS_rp _ _ _) ?_
                  refine st_iconst dX2_readNumber_64 (by decide) ?_
                  refine st_iadd dX2_readNumber_65 (by omega) ?_
                  refine st_put dX2_readNumber_66 fl_X2_26 fp_X2_3.1 (Or.inl fp_X2_3.2) rfl rfl rfl ?_
                  refine fAt_m (rS_p M _ ((sk (M 7 0) ln q) + 2) _) ?_
                  refine st_iinc (ls' := [some (vr 6 0), some (vi (((sk (M 7 0) ln q) : Nat) : Int)), some (vi ((0 + 1) + 1))]) dX2_readNumber_69 rfl (by omega) (by decide) rfl rfl ?_
                  refine st_goto 28 dX2_readNumber_72 (by decide) ?_
                  refine st_iload_n dX2_readNumber_28 rfl ?_
                  refine st_iconst dX2_readNumber_29 (by decide) ?_
                  refine st_icmp_ge 75 dX2_readNumber_30 (by decide) (fun h30 => ?_) (fun h30 => ?_)
                  · skip
                    have hE : nE (M 7 0) ln (sk (M 7 0) ln q) = (sk (M 7 0) ln q) + 2 := by unfold nE; rw [if_pos dd1]
                    have hV : nV (M 7 0) ln (sk (M 7 0) ln q) = (10 * (M 7 0 (sk (M 7 0) ln q) - 48) + M 7 0 ((sk (M 7 0) ln q) + 1) - 48) := by unfold nV; rw [if_pos dd1]
                    refine st_aload_n dX2_readNumber_75 rfl ?_
                    refine st_get dX2_readNumber_76 fl_X2_32 rfl rfl rfl ?_
                    refine fAt_v (x' := (10 * (M 7 0 (sk (M 7 0) ln q) - 48) + M 7 0 ((sk (M 7 0) ln q) + 1) - 48)) (rS_rv _ _ _) ?_
                    refine st_aload_n dX2_readNumber_79 rfl ?_
                    refine st_get dX2_readNumber_80 fl_X2_29 rfl rfl rfl ?_
                    refine fAt_v (x' := p) ((rS_ne (by omega)).trans hpr) ?_
                    refine st_icmp_lt 91 dX2_readNumber_83 (by decide) (fun h83 => ?_) (fun h83 => ?_)
                    · skip
                      refine st_aload_n dX2_readNumber_91 rfl ?_
                      refine st_callVi [] [] dX2_readNumber_92 vl_X2_73 rfl rfl rfl rfl (Nat.le_of_ble_eq_true rfl) (by decide) (c_isDigitHere (q := ((sk (M 7 0) ln q) + 2)) (v := (10 * (M 7 0 (sk (M 7 0) ln q) - 48) + M 7 0 ((sk (M 7 0) ln q) + 1) - 48)) hl hn7) (fun ze Me qe => ?_)
                      obtain ⟨qe, h0e⟩ := qe
                      subst Me
                      rcases qe with ⟨rfl, de⟩ | ⟨rfl, de⟩
                      · skip
                        refine st_if_eq 103 dX2_readNumber_95 (by decide) (fun h95 => ?_) (fun h95 => ?_)
                        · skip
                          exact absurd h95 (by decide)
                        · skip
                          refine st_aload_n dX2_readNumber_98 rfl ?_
                          refine st_callVi [] [] dX2_readNumber_99 vl_X2_49 rfl rfl rfl rfl (Nat.le_of_ble_eq_true rfl) (by decide) (c_faultHere (q := ((sk (M 7 0) ln q) + 2)) (v := (10 * (M 7 0 (sk (M 7 0) ln q) - 48) + M 7 0 ((sk (M 7 0) ln q) + 1) - 48)) (by omega)) (fun zf Mf qf => ?_)
                          obtain ⟨rfl, h0f⟩ := qf
                          subst Mf
                          refine st_ireturn dX2_readNumber_102 rfl ⟨_, rfl, Or.inl ⟨_, _, _, nF_3 dd (by omega) (by rw [hE]; exact de), by rw [hE], rfl⟩⟩
                      · skip
                        refine st_if_eq 103 dX2_readNumber_95 (by decide) (fun h95 => ?_) (fun h95 => ?_)
                        · skip
                          refine st_aload_n dX2_readNumber_103 rfl ?_
                          refine st_callVv [] [] dX2_readNumber_104 vl_X2_35 rfl rfl rfl rfl (Nat.le_of_ble_eq_true rfl) (by decide) (c_skipBlanks (q := ((sk (M 7 0) ln q) + 2)) (v := (10 * (M 7 0 (sk (M 7 0) ln q) - 48) + M 7 0 ((sk (M 7 0) ln q) + 1) - 48)) hl hn7 (by omega)) (fun Ms qs => ?_)
                          subst qs
                          refine st_iconst dX2_readNumber_107 (by decide) ?_
                          refine st_ireturn dX2_readNumber_108 rfl ⟨_, rfl, Or.inr ⟨nF_0 dd (by omega) (by rw [hE]; exact de), rfl, by unfold nx; rw [hE, hV]⟩⟩
                        · skip
                          exact absurd rfl h95
                    · skip
                      refine st_bipush dX2_readNumber_86 (by decide) ?_
                      refine st_iload_n dX2_readNumber_88 rfl ?_
                      refine st_isub dX2_readNumber_89 (by omega) ?_
                      refine st_ireturn dX2_readNumber_90 rfl ⟨_, rfl, Or.inl ⟨_, _, _, nF_2 (by omega), rfl, rfl⟩⟩
                  · skip
                    exact absurd h30 (by omega)
              · skip
                refine st_if_eq 75 dX2_readNumber_37 (by decide) (fun h37 => ?_) (fun h37 => ?_)
                · skip
                  have hE : nE (M 7 0) ln (sk (M 7 0) ln q) = (sk (M 7 0) ln q) + 1 := by unfold nE; rw [if_neg dd1]
                  have hV : nV (M 7 0) ln (sk (M 7 0) ln q) = (M 7 0 (sk (M 7 0) ln q) - 48) := by unfold nV; rw [if_neg dd1]
                  refine st_aload_n dX2_readNumber_75 rfl ?_
                  refine st_get dX2_readNumber_76 fl_X2_32 rfl rfl rfl ?_
                  refine fAt_v (x' := (M 7 0 (sk (M 7 0) ln q) - 48)) (rS_rv _ _ _) ?_
                  refine st_aload_n dX2_readNumber_79 rfl ?_
                  refine st_get dX2_readNumber_80 fl_X2_29 rfl rfl rfl ?_
                  refine fAt_v (x' := p) ((rS_ne (by omega)).trans hpr) ?_
                  refine st_icmp_lt 91 dX2_readNumber_83 (by decide) (fun h83 => ?_) (fun h83 => ?_)
                  · skip
                    refine st_aload_n dX2_readNumber_91 rfl ?_
                    refine st_callVi [] [] dX2_readNumber_92 vl_X2_73 rfl rfl rfl rfl (Nat.le_of_ble_eq_true rfl) (by decide) (c_isDigitHere (q := ((sk (M 7 0) ln q) + 1)) (v := (M 7 0 (sk (M 7 0) ln q) - 48)) hl hn7) (fun ze Me qe => ?_)
                    obtain ⟨qe, h0e⟩ := qe
                    subst Me
                    rcases qe with ⟨rfl, de⟩ | ⟨rfl, de⟩
                    · skip
                      refine st_if_eq 103 dX2_readNumber_95 (by decide) (fun h95 => ?_) (fun h95 => ?_)
                      · skip
                        exact absurd h95 (by decide)
                      · skip
                        refine st_aload_n dX2_readNumber_98 rfl ?_
                        refine st_callVi [] [] dX2_readNumber_99 vl_X2_49 rfl rfl rfl rfl (Nat.le_of_ble_eq_true rfl) (by decide) (c_faultHere (q := ((sk (M 7 0) ln q) + 1)) (v := (M 7 0 (sk (M 7 0) ln q) - 48)) (by omega)) (fun zf Mf qf => ?_)
                        obtain ⟨rfl, h0f⟩ := qf
                        subst Mf
                        refine st_ireturn dX2_readNumber_102 rfl ⟨_, rfl, Or.inl ⟨_, _, _, nF_3 dd (by omega) (by rw [hE]; exact de), by rw [hE], rfl⟩⟩
                    · skip
                      refine st_if_eq 103 dX2_readNumber_95 (by decide) (fun h95 => ?_) (fun h95 => ?_)
                      · skip
                        refine st_aload_n dX2_readNumber_103 rfl ?_
                        refine st_callVv [] [] dX2_readNumber_104 vl_X2_35 rfl rfl rfl rfl (Nat.le_of_ble_eq_true rfl) (by decide) (c_skipBlanks (q := ((sk (M 7 0) ln q) + 1)) (v := (M 7 0 (sk (M 7 0) ln q) - 48)) hl hn7 (by omega)) (fun Ms qs => ?_)
                        subst qs
                        refine st_iconst dX2_readNumber_107 (by decide) ?_
                        refine st_ireturn dX2_readNumber_108 rfl ⟨_, rfl, Or.inr ⟨nF_0 dd (by omega) (by rw [hE]; exact de), rfl, by unfold nx; rw [hE, hV]⟩⟩
                      · skip
                        exact absurd rfl h95
                  · skip
                    refine st_bipush dX2_readNumber_86 (by decide) ?_
                    refine st_iload_n dX2_readNumber_88 rfl ?_
                    refine st_isub dX2_readNumber_89 (by omega) ?_
                    refine st_ireturn dX2_readNumber_90 rfl ⟨_, rfl, Or.inl ⟨_, _, _, nF_2 (by omega), rfl, rfl⟩⟩
                · skip
                  exact absurd rfl h37
        · skip
          exact absurd dd dd0
    · skip
      exact absurd h13 (by decide)
  · skip
    refine st_if_ne 21 dX2_readNumber_13 (by decide) (fun h13 => ?_) (fun h13 => ?_)
    · skip
      exact absurd rfl h13
    · skip
      refine st_aload_n dX2_readNumber_16 rfl ?_
      refine st_callVi [] [] dX2_readNumber_17 vl_X2_49 rfl rfl rfl rfl (Nat.le_of_ble_eq_true rfl) (by decide) (c_faultHere (q := (sk (M 7 0) ln q)) (v := v) (by omega)) (fun zf Mf qf => ?_)
      obtain ⟨rfl, h0f⟩ := qf
      subst Mf
      refine st_ireturn dX2_readNumber_20 rfl ⟨_, rfl, Or.inl ⟨_, _, _, nF_1 dd, rfl, rfl⟩⟩
