/-! ===== the reference: equations worked out ===== -/
def wT (M : fM) (t : Nat → Int) (k : Int) : fM := fun kk a b => if kk = 25 ∧ a = 0 then t b else if kk = 22 ∧ a = 0 ∧ b = 3 then k else M kk a b
theorem wT_t (M : fM) (t : Nat → Int) (k : Int) (C : Nat → Nat → Int) (j : Nat) (v : Int) : fup (wW (wT M t k) C) 25 0 j v = wW (wT M (fun q => if q = j then v else t q) k) C := by
  funext kk a b
  simp only [fup, wW, wT]
  grind (splits := 40)
theorem wT_k (M : fM) (t : Nat → Int) (k : Int) (C : Nat → Nat → Int) (v : Int) : fup (wW (wT M t k) C) 22 0 3 v = wW (wT M t v) C := by
  funext kk a b
  simp only [fup, wW, wT]
  grind (splits := 40)
theorem wT_self (M : fM) (C : Nat → Nat → Int) : wW M C = wW (wT M (M 25 0) (M 22 0 3)) C := by
  funext kk a b
  simp only [wW, wT]
  grind (splits := 40)
theorem wT_tat (M : fM) (t : Nat → Int) (k : Int) (C : Nat → Nat → Int) (j : Nat) : wW (wT M t k) C 25 0 j = t j := by
  rw [wW_ne (by decide)]
  unfold wT
  rw [if_pos ⟨rfl, rfl⟩]
theorem wT_kat (M : fM) (t : Nat → Int) (k : Int) (C : Nat → Nat → Int) : wW (wT M t k) C 22 0 3 = k := by
  rw [wW_ne (by decide)]
  unfold wT
  rw [if_neg (by omega), if_pos ⟨rfl, rfl, rfl⟩]
def tN (t : Nat → Int) (d : Nat) : Option Nat := if t d = -4 then none else some (t d).toNat
theorem tN_n {t : Nat → Int} {d : Nat} (h : t d = -4) : tN t d = none := by unfold tN; rw [if_pos h]
theorem tN_s {t : Nat → Int} {d k : Nat} (h : t d = (k : Int)) : tN t d = some k := by unfold tN; rw [if_neg (by omega), h]; rfl
theorem tN_e {a b : Nat → Int} {d : Nat} (h : a d = b d) : tN a d = tN b d := by unfold tN; rw [h]
theorem clP_congr {p : Int} {R u : Nat} {C D D' : Nat → Nat → Int} {k c : Nat} (hk : k < R) (hc : c < u + 1) (e : ∀ i j, i < R → j < u + 1 → D i j = D' i j) (h : clP p R u C k c D) : clP p R u C k c D' :=
  ⟨fun i j hi hj => by rw [← e i j hi hj]; exact h.1 i j hi hj, fun β x => (Ev_congr (fun i j hi hj => (e i j hi (by omega)).symm) x).trans (h.2.1 β x), by rw [← e k c hk hc]; exact h.2.2.1, fun i d hi hd h0 => by rw [← e i d hi hd]; exact h.2.2.2 i d hi hd h0⟩
theorem clP_sc13 {p : Int} {R u : Nat} {C : Nat → Nat → Int} {k c : Nat} {sc : Int} (hp : 2 ≤ p) (hk : k < R) (hc : c < u + 1) (hu : u < 13) (hr : rg p R C) (hs : (C k c * sc) % p = 1) : clP p R u C k c (rSc p C k sc 13) := by
  refine clP_congr hk hc (fun i j hi hj => ?_) (clP_sc hp hk hc (fun i j hi hj => hr i j hi (by omega)) hs)
  unfold rSc
  by_cases e : i = k
  · rw [if_pos ⟨e, hj⟩, if_pos ⟨e, by omega⟩]
  · rw [if_neg (fun q => e q.1), if_neg (fun q => e q.1)]
theorem tk13 {p : Int} {C : Nat → Nat → Int} {s q : Nat} {t : Int} {u : Nat} (hu : u < 13) : ∀ i j, j < u + 1 → rTk p C s q t 0 (u + 1) i j = rTk p C s q t 0 13 i j := by
  intro i j hj
  unfold rTk
  by_cases e : i = s
  · rw [if_pos ⟨e, by omega, hj⟩, if_pos ⟨e, by omega, by omega⟩]
  · rw [if_neg (fun q => e q.1), if_neg (fun q => e q.1)]
theorem clP_tk13 {p : Int} {R u : Nat} {C D : Nat → Nat → Int} {k c r : Nat} (hp : 2 ≤ p) (hk : k < R) (hc : c < u + 1) (hu : u < 13) (hr : r < R) (hne : r ≠ k) (h : clP p R u C k c D) : clP p R u C k c (rTk p D r k (D r c) 0 13) :=
  clP_congr hk hc (fun i j _ hj => tk13 hu i j hj) (clP_tk hp hk hr hne h)
theorem clP_013 {p : Int} {R u : Nat} {C D : Nat → Nat → Int} {k c r : Nat} (hp : 2 ≤ p) (hc : c < u + 1) (hu : u < 13) (h : clP p R u C k c D) : rTk p D r k (D r c) 0 13 r c = 0 := by
  rw [← tk13 hu r c hc]; exact clP_0 hp hc h
set_option maxHeartbeats 4000000 in
set_option maxRecDepth 100000 in
theorem worksOut_i {g : fG} {M : fM} {p : Int} {A : Nat → Nat → Int} {R u : Nat} (hp : M 23 0 2 = p) (hpk : pOk p) (hR : R ≤ 11) (hu : u ≤ 11) {C : Nat → Nat → Int} {k c r : Nat} {t : Nat → Int} {Q : Option fV → fM → Prop} (hk : k < R) (hc : c < u)
    (hkk : ∀ D, clP p R u C k c D → rg p R D → (∀ q, q < R → q ≠ k → D q c = 0) → fAt g Y_X7_worksOut 9 [some (vr 22 0), some (vi (R : Int)), some (vi (u : Int)), some (vi ((c : Int) + (-1))), none, none] [] (wW (wT M t ((k : Int) + 1)) D) Q) :
    ∀ (n i : Nat) (D : Nat → Nat → Int), i + n = R → clP p R u C k c D → rg p R D → (∀ q, q < i → q ≠ k → D q c = 0) → fAt g Y_X7_worksOut 93 [some (vr 22 0), some (vi (R : Int)), some (vi (u : Int)), some (vi (c : Int)), some (vi (r : Int)), some (vi (i : Int))] [] (wW (wT M t (k : Int)) D) Q := by
  have hp2 := hpk.1
  intro n
  induction n with
  | zero =>
    intro i D hn hD hrg h0
    refine st_iload dX7_worksOut_93 rfl ?_
    refine st_iload_n dX7_worksOut_95 rfl ?_
    refine st_icmp_ge 136 dX7_worksOut_96 (by decide) (fun h96 => ?_) (fun h96 => ?_)
    · skip
      refine st_aload_n dX7_worksOut_136 rfl ?_
      refine st_dup dX7_worksOut_137 rfl ?_
      refine st_get dX7_worksOut_138 fl_X7_87 rfl rfl rfl ?_
      refine fAt_v (x' := (k : Int)) (wT_kat _ _ _ _) ?_
      refine st_iconst dX7_worksOut_141 (by decide) ?_
      refine st_iadd dX7_worksOut_142 (by omega) ?_
      refine st_put dX7_worksOut_143 fl_X7_87 fp_X7_3.1 (Or.inl fp_X7_3.2) rfl rfl rfl ?_
      refine fAt_m (wT_k _ _ _ _ _) ?_
      refine st_iinc (ls' := [some (vr 22 0), some (vi (R : Int)), some (vi (u : Int)), some (vi ((c : Int) + (-1))), some (vi (r : Int)), some (vi (i : Int))]) dX7_worksOut_146 rfl (by omega) (by decide) rfl rfl ?_
      refine st_goto 9 dX7_worksOut_149 (by decide) ?_
      refine fAt_del 4 rfl ?_
      refine fAt_del 5 rfl ?_
      exact hkk D hD hrg (fun q h1 h2 => h0 q (by omega) h2)
    · skip
      exact absurd h96 (by omega)
  | succ n ih =>
    intro i D hn hD hrg h0
    refine st_iload dX7_worksOut_93 rfl ?_
    refine st_iload_n dX7_worksOut_95 rfl ?_
    refine st_icmp_ge 136 dX7_worksOut_96 (by decide) (fun h96 => ?_) (fun h96 => ?_)
    · skip
      exact absurd h96 (by omega)
    · skip
      refine st_iload dX7_worksOut_99 rfl ?_
      refine st_aload_n dX7_worksOut_101 rfl ?_
      refine st_get dX7_worksOut_102 fl_X7_87 rfl rfl rfl ?_
      refine fAt_v (x' := (k : Int)) (wT_kat _ _ _ _) ?_
      refine st_icmp_eq 130 dX7_worksOut_105 (by decide) (fun h105 => ?_) (fun h105 => ?_)
      · skip
        have e105 : i = k := by omega
        refine st_iinc (ls' := [some (vr 22 0), some (vi (R : Int)), some (vi (u : Int)), some (vi (c : Int)), some (vi (r : Int)), some (vi ((i : Int) + 1))]) dX7_worksOut_130 rfl (by omega) (by decide) rfl rfl ?_
        refine st_goto 93 dX7_worksOut_133 (by decide) ?_
        exact ih (i + 1) D (by omega) hD hrg (fun q h1 h2 => h0 q (by omega) h2)
      · skip
        have e105 : i ≠ k := by omega
        refine st_aload_n dX7_worksOut_108 rfl ?_
        refine st_iload dX7_worksOut_109 rfl ?_
        refine st_aload_n dX7_worksOut_111 rfl ?_
        refine st_get dX7_worksOut_112 fl_X7_87 rfl rfl rfl ?_
        refine fAt_v (x' := (k : Int)) (wT_kat _ _ _ _) ?_
        refine st_aload_n dX7_worksOut_115 rfl ?_
        refine st_getr (i' := 0) dX7_worksOut_116 fl_X7_13 rfl rfl rfl (fun _ => by decide) ?_
        refine st_bipush dX7_worksOut_119 (by decide) ?_
        refine st_iload dX7_worksOut_121 rfl ?_
        refine st_imul dX7_worksOut_123 (by omega) ?_
        refine st_iload_n dX7_worksOut_124 rfl ?_
        refine st_iadd dX7_worksOut_125 (by omega) ?_
        refine st_iald (j := ((13 * i) + c)) dX7_worksOut_126 rfl rfl rfl (by omega) (by omega) ?_
        refine fAt_v (x' := D i c) (wW_at (by omega)) ?_
        refine st_callVv [vi (i : Int), vi (k : Int), vi (D i c)] [] dX7_worksOut_127 vl_X7_83 rfl rfl rfl rfl (Nat.le_of_ble_eq_true rfl) (by decide) (m_takes (M := wT M t (k : Int)) (C := D) (s := i) (q := k) hp hpk.1 (by omega) (by omega) (hrg i c (by omega) (by omega)) (fun j hj => hrg i j (by omega) hj) (fun j hj => hrg k j (by omega) hj)) (fun Mt qt => ?_)
        subst qt
        refine st_iinc (ls' := [some (vr 22 0), some (vi (R : Int)), some (vi (u : Int)), some (vi (c : Int)), some (vi (r : Int)), some (vi ((i : Int) + 1))]) dX7_worksOut_130 rfl (by omega) (by decide) rfl rfl ?_
        refine st_goto 93 dX7_worksOut_133 (by decide) ?_
        refine ih (i + 1) _ (by omega) (clP_tk13 (by omega) hk (by omega) (by omega) (by omega) e105 hD) (rTk_rng (by omega) hrg) ?_
        intro q h1 h2
        by_cases e : q = i
        · rw [e]; exact clP_013 (by omega) (by omega) (by omega) hD
        · rw [rTk_ne (fun z => e z.1)]; exact h0 q (by omega) h2
set_option maxHeartbeats 4000000 in
set_option maxRecDepth 100000 in
theorem worksOut_e {g : fG} {M : fM} {p : Int} {A : Nat → Nat → Int} {R u : Nat} (hp : M 23 0 2 = p) (hpk : pOk p) (hR : R ≤ 11) (hu : u ≤ 11) {C : Nat → Nat → Int} {k : Nat} {t : Nat → Int} (hE : El p R u A 0 C k (tN t)) (ht : ∀ d, d < u → t d = -4 ∨ 0 ≤ t d) (hrg : rg p R C) :
    ∀ (n r : Nat) (z : Int), k ≤ r → r + n = R → ((z = 1 ∧ ∀ q, k ≤ q → q < r → C q u = 0) ∨ (z = 0 ∧ ¬ ∀ q, k ≤ q → q < r → C q u = 0)) → fAt g Y_X7_worksOut 160 [some (vr 22 0), some (vi (R : Int)), some (vi (u : Int)), some (vi z), some (vi (r : Int)), none] [] (wW (wT M t (k : Int)) C) (fI (fun z M' => ∃ C t k, M' = wW (wT M t ((k : Nat) : Int)) C ∧ El p R u A 0 C k (tN t) ∧ (∀ d, d < u → t d = -4 ∨ 0 ≤ t d) ∧ rg p R C ∧ ((z = 1 ∧ ∀ r, k ≤ r → r < R → C r u = 0) ∨ (z = 0 ∧ ¬ ∀ r, k ≤ r → r < R → C r u = 0)))) := by
  have hp2 := hpk.1
  intro n
  induction n with
  | zero =>
    intro r z hkr hn hz
    refine st_iload dX7_worksOut_160 rfl ?_
    refine st_iload_n dX7_worksOut_162 rfl ?_
    refine st_icmp_ge 197 dX7_worksOut_163 (by decide) (fun h163 => ?_) (fun h163 => ?_)
    · skip
      refine st_iload_n dX7_worksOut_197 rfl ?_
      refine st_zreturn dX7_worksOut_198 rfl (by omega) ⟨_, rfl, ⟨C, t, k, rfl, hE, ht, hrg, ?_⟩⟩
      have e : r = R := by omega
      rw [e] at hz
      exact hz
    · skip
      exact absurd h163 (by omega)
  | succ n ih =>
    intro r z hkr hn hz
    refine st_iload dX7_worksOut_160 rfl ?_
    refine st_iload_n dX7_worksOut_162 rfl ?_
    refine st_icmp_ge 197 dX7_worksOut_163 (by decide) (fun h163 => ?_) (fun h163 => ?_)
    · skip
      exact absurd h163 (by omega)
    · skip
      refine st_iload_n dX7_worksOut_166 rfl ?_
      refine st_if_eq 189 dX7_worksOut_167 (by decide) (fun h167 => ?_) (fun h167 => ?_)
      · skip
        refine st_iconst dX7_worksOut_189 (by decide) ?_
        refine st_istore_n (ls' := [some (vr 22 0), some (vi (R : Int)), some (vi (u : Int)), some (vi 0), some (vi (r : Int)), none]) dX7_worksOut_190 (by decide) rfl rfl ?_
        refine st_iinc (ls' := [some (vr 22 0), some (vi (R : Int)), some (vi (u : Int)), some (vi 0), some (vi ((r : Int) + 1)), none]) dX7_worksOut_191 rfl (by omega) (by decide) rfl rfl ?_
        refine st_goto 160 dX7_worksOut_194 (by decide) ?_
        first
        | exact ih (r + 1) _ (by omega) (by omega) (Or.inl ⟨rfl, lt_sN (by rcases hz with ⟨_, q⟩ | ⟨q, _⟩; exact q; exact absurd q (by omega)) h182⟩)
        | exact ih (r + 1) _ (by omega) (by omega) (Or.inr ⟨rfl, fun q => h182 (q r (by omega) (by omega))⟩)
        | exact ih (r + 1) _ (by omega) (by omega) (Or.inr ⟨rfl, by rcases hz with ⟨q, _⟩ | ⟨_, q⟩; exact absurd q (by omega); exact fun z => q (fun r1 a1 a2 => z r1 a1 (by omega))⟩)
      · skip
        refine st_aload_n dX7_worksOut_170 rfl ?_
        refine st_getr (i' := 0) dX7_worksOut_171 fl_X7_13 rfl rfl rfl (fun _ => by decide) ?_
        refine st_bipush dX7_worksOut_174 (by decide) ?_
        refine st_iload dX7_worksOut_176 rfl ?_
        refine st_imul dX7_worksOut_178 (by omega) ?_
        refine st_iload_n dX7_worksOut_179 rfl ?_
        refine st_iadd dX7_worksOut_180 (by omega) ?_
        refine st_iald (j := ((13 * r) + u)) dX7_worksOut_181 rfl rfl rfl (by omega) (by omega) ?_
        refine fAt_v (x' := C r u) (wW_at (by omega)) ?_
        refine st_if_ne 189 dX7_worksOut_182 (by decide) (fun h182 => ?_) (fun h182 => ?_)
        · skip
          refine st_iconst dX7_worksOut_189 (by decide) ?_
          refine st_istore_n (ls' := [some (vr 22 0), some (vi (R : Int)), some (vi (u : Int)), some (vi 0), some (vi (r : Int)), none]) dX7_worksOut_190 (by decide) rfl rfl ?_
          refine st_iinc (ls' := [some (vr 22 0), some (vi (R : Int)), some (vi (u : Int)), some (vi 0), some (vi ((r : Int) + 1)), none]) dX7_worksOut_191 rfl (by omega) (by decide) rfl rfl ?_
          refine st_goto 160 dX7_worksOut_194 (by decide) ?_
          first
          | exact ih (r + 1) _ (by omega) (by omega) (Or.inl ⟨rfl, lt_sN (by rcases hz with ⟨_, q⟩ | ⟨q, _⟩; exact q; exact absurd q (by omega)) h182⟩)
          | exact ih (r + 1) _ (by omega) (by omega) (Or.inr ⟨rfl, fun q => h182 (q r (by omega) (by omega))⟩)
          | exact ih (r + 1) _ (by omega) (by omega) (Or.inr ⟨rfl, by rcases hz with ⟨q, _⟩ | ⟨_, q⟩; exact absurd q (by omega); exact fun z => q (fun r1 a1 a2 => z r1 a1 (by omega))⟩)
        · skip
          refine st_iconst dX7_worksOut_185 (by decide) ?_
          refine st_goto 190 dX7_worksOut_186 (by decide) ?_
          refine st_istore_n (ls' := [some (vr 22 0), some (vi (R : Int)), some (vi (u : Int)), some (vi 1), some (vi (r : Int)), none]) dX7_worksOut_190 (by decide) rfl rfl ?_
          refine st_iinc (ls' := [some (vr 22 0), some (vi (R : Int)), some (vi (u : Int)), some (vi 1), some (vi ((r : Int) + 1)), none]) dX7_worksOut_191 rfl (by omega) (by decide) rfl rfl ?_
          refine st_goto 160 dX7_worksOut_194 (by decide) ?_
          first
          | exact ih (r + 1) _ (by omega) (by omega) (Or.inl ⟨rfl, lt_sN (by rcases hz with ⟨_, q⟩ | ⟨q, _⟩; exact q; exact absurd q (by omega)) h182⟩)
          | exact ih (r + 1) _ (by omega) (by omega) (Or.inr ⟨rfl, fun q => h182 (q r (by omega) (by omega))⟩)
          | exact ih (r + 1) _ (by omega) (by omega) (Or.inr ⟨rfl, by rcases hz with ⟨q, _⟩ | ⟨_, q⟩; exact absurd q (by omega); exact fun z => q (fun r1 a1 a2 => z r1 a1 (by omega))⟩)
set_option maxHeartbeats 4000000 in
set_option maxRecDepth 100000 in
theorem worksOut_o {g : fG} {M : fM} {p : Int} {A : Nat → Nat → Int} {R u : Nat} (hp : M 23 0 2 = p) (hpk : pOk p) (hR : R ≤ 11) (hu : u ≤ 11) {w0 : Nat} (hnk : nOk M w0 p) :
    ∀ (m k : Nat) (x : Int) (t : Nat → Int) (C : Nat → Nat → Int), x = (m : Int) - 1 → m ≤ u → El p R u A m C k (tN t) → rg p R C → (∀ d, m ≤ d → d < u → t d = -4 ∨ 0 ≤ t d) → fAt g Y_X7_worksOut 9 [some (vr 22 0), some (vi (R : Int)), some (vi (u : Int)), some (vi x), none, none] [] (wW (wT M t (k : Int)) C) (fI (fun z M' => ∃ C t k, M' = wW (wT M t ((k : Nat) : Int)) C ∧ El p R u A 0 C k (tN t) ∧ (∀ d, d < u → t d = -4 ∨ 0 ≤ t d) ∧ rg p R C ∧ ((z = 1 ∧ ∀ r, k ≤ r → r < R → C r u = 0) ∨ (z = 0 ∧ ¬ ∀ r, k ≤ r → r < R → C r u = 0)))) := by
  have hp2 := hpk.1
  intro m
  induction m with
  | zero =>
    intro k x t C hx hm hE hrg ht
    refine st_iload_n dX7_worksOut_9 rfl ?_
    refine st_if_lt 152 dX7_worksOut_10 (by decide) (fun h10 => ?_) (fun h10 => ?_)
    · skip
      refine st_iconst dX7_worksOut_152 (by decide) ?_
      refine st_istore_n (ls' := [some (vr 22 0), some (vi (R : Int)), some (vi (u : Int)), some (vi 1), none, none]) dX7_worksOut_153 (by decide) rfl rfl ?_
      refine st_aload_n dX7_worksOut_154 rfl ?_
      refine st_get dX7_worksOut_155 fl_X7_87 rfl rfl rfl ?_
      refine fAt_v (x' := (k : Int)) (wT_kat _ _ _ _) ?_
      refine st_istore (ls' := [some (vr 22 0), some (vi (R : Int)), some (vi (u : Int)), some (vi 1), some (vi (k : Int)), none]) dX7_worksOut_158 (by decide) rfl rfl ?_
      exact worksOut_e hp hpk hR hu hE (fun d hd => ht d (Nat.zero_le _) hd) hrg (R - k) k _ (Nat.le_refl k) (by have := hE.2.2.1; omega) (Or.inl ⟨rfl, fun q h1 h2 => absurd h2 (by omega)⟩)
    · skip
      exact absurd h10 (by omega)
  | succ m ih =>
    intro k x t C hx hm hE hrg ht
    have e : x = (m : Int) := by omega
    subst e
    have hkR := hE.2.2.1
    refine st_iload_n dX7_worksOut_9 rfl ?_
    refine st_if_lt 152 dX7_worksOut_10 (by decide) (fun h10 => ?_) (fun h10 => ?_)
    · skip
      exact absurd h10 (by omega)
    · skip
      refine st_aload_n dX7_worksOut_13 rfl ?_
      refine st_aload_n dX7_worksOut_14 rfl ?_
      refine st_get dX7_worksOut_15 fl_X7_87 rfl rfl rfl ?_
      refine fAt_v (x' := (k : Int)) (wT_kat _ _ _ _) ?_
      refine st_iload_n dX7_worksOut_18 rfl ?_
      refine st_iload_n dX7_worksOut_19 rfl ?_
      refine st_callVi [vi (k : Int), vi (R : Int), vi (m : Int)] [] dX7_worksOut_20 vl_X7_73 rfl rfl rfl rfl (Nat.le_of_ble_eq_true rfl) (by decide) (m_pivot (M := wT M t (k : Int)) (C := C) (f := k) (n := R) (c := m) (by omega) (by omega) hE.2.2.1) (fun z Mp qp => ?_)
      obtain ⟨qp, q⟩ := qp
      subst Mp
      rcases qp with ⟨rfl, z0⟩ | ⟨r, rfl, r1, r2, r3, r4⟩
      · skip
        refine st_istore (ls' := [some (vr 22 0), some (vi (R : Int)), some (vi (u : Int)), some (vi (m : Int)), some (vi (-4)), none]) dX7_worksOut_23 (by decide) rfl rfl ?_
        refine st_aload_n dX7_worksOut_25 rfl ?_
        refine st_getr (i' := 0) dX7_worksOut_26 fl_X7_16 rfl rfl rfl (fun _ => by decide) ?_
        refine st_iload_n dX7_worksOut_29 rfl ?_
        refine st_iload dX7_worksOut_30 rfl ?_
        refine st_bipush dX7_worksOut_32 (by decide) ?_
        refine st_icmp_ne 42 dX7_worksOut_34 (by decide) (fun h34 => ?_) (fun h34 => ?_)
        · skip
          exact absurd rfl h34
        · skip
          refine st_bipush dX7_worksOut_37 (by decide) ?_
          refine st_goto 46 dX7_worksOut_39 (by decide) ?_
          refine st_iast (j := m) dX7_worksOut_46 rfl rfl rfl rfl (by omega) ?_
          refine fAt_m (wT_t _ _ _ _ _ _) ?_
          refine st_iload dX7_worksOut_47 rfl ?_
          refine st_bipush dX7_worksOut_49 (by decide) ?_
          refine st_icmp_eq 146 dX7_worksOut_51 (by decide) (fun h51 => ?_) (fun h51 => ?_)
          · skip
            refine st_iinc (ls' := [some (vr 22 0), some (vi (R : Int)), some (vi (u : Int)), some (vi ((m : Int) + (-1))), some (vi (-4)), none]) dX7_worksOut_146 rfl (by omega) (by decide) rfl rfl ?_
            refine st_goto 9 dX7_worksOut_149 (by decide) ?_
            refine fAt_del 4 rfl ?_
            refine ih k _ _ C (by omega) (by omega) (El_none (by omega) hE z0 (tN_n (by show (if m = m then (-4 : Int) else t m) = -4; rw [if_pos rfl])) (fun d h1 h2 => tN_e (by show (if d = m then (-4 : Int) else t d) = t d; rw [if_neg (by omega)]))) hrg (fun d h1 h2 => ?_)
            show (if d = m then (-4 : Int) else t d) = -4 ∨ 0 ≤ (if d = m then (-4 : Int) else t d)
            split
            · exact Or.inl rfl
            · exact ht d (by omega) h2
          · skip
            exact absurd rfl h51
      · skip
        have hkR : k < R := by omega
        have hrk : r < R := r2
        have hC1 : rg p R (swp r k C) := rg_swp hrg r2 hkR
        have hV1 : ∀ β y, Ev β p R u (swp r k C) y ↔ Ev β p R u C y := fun β y => Ev_swp r2 hkR y
        have hZ1 : ∀ i d, i < R → m < d → d < u → swp r k C i d = C i d := by
          intro i d hi h1 h2
          have zk := hE.2.2.2.2.2.1 k (Nat.le_refl k) hkR d (by omega) h2
          have zr := hE.2.2.2.2.2.1 r r1 r2 d (by omega) h2
          rw [swp_at]
          split
          · rename_i e; rw [zk, e, zr]
          · split
            · rename_i e; rw [zr, e, zk]
            · rfl
        have hnz : swp r k C k m ≠ 0 := by
          rw [swp_at]
          split
          · rename_i e; rw [← e] at r3; exact r3
          · rw [if_pos rfl]; exact r3
        have hkm := hC1 k m hkR (by omega)
        refine st_istore (ls' := [some (vr 22 0), some (vi (R : Int)), some (vi (u : Int)), some (vi (m : Int)), some (vi (r : Int)), none]) dX7_worksOut_23 (by decide) rfl rfl ?_
        refine st_aload_n dX7_worksOut_25 rfl ?_
        refine st_getr (i' := 0) dX7_worksOut_26 fl_X7_16 rfl rfl rfl (fun _ => by decide) ?_
        refine st_iload_n dX7_worksOut_29 rfl ?_
        refine st_iload dX7_worksOut_30 rfl ?_
        refine st_bipush dX7_worksOut_32 (by decide) ?_
        refine st_icmp_ne 42 dX7_worksOut_34 (by decide) (fun h34 => ?_) (fun h34 => ?_)
        · skip
          refine st_aload_n dX7_worksOut_42 rfl ?_
          refine st_get dX7_worksOut_43 fl_X7_87 rfl rfl rfl ?_
          refine fAt_v (x' := (k : Int)) (wT_kat _ _ _ _) ?_
          refine st_iast (j := m) dX7_worksOut_46 rfl rfl rfl rfl (by omega) ?_
          refine fAt_m (wT_t _ _ _ _ _ _) ?_
          refine st_iload dX7_worksOut_47 rfl ?_
          refine st_bipush dX7_worksOut_49 (by decide) ?_
          refine st_icmp_eq 146 dX7_worksOut_51 (by decide) (fun h51 => ?_) (fun h51 => ?_)
          · skip
            exact absurd h51 (by omega)
          · skip
            refine st_aload_n dX7_worksOut_54 rfl ?_
            refine st_iload dX7_worksOut_55 rfl ?_
            refine st_aload_n dX7_worksOut_57 rfl ?_
            refine st_get dX7_worksOut_58 fl_X7_87 rfl rfl rfl ?_
            refine fAt_v (x' := (k : Int)) (wT_kat _ _ _ _) ?_
            refine st_callVv [vi (r : Int), vi (k : Int)] [] dX7_worksOut_61 vl_X7_76 rfl rfl rfl rfl (Nat.le_of_ble_eq_true rfl) (by decide) (m_swaps (M := wT M (fun q => if q = m then (k : Int) else t q) (k : Int)) (C := C) (by omega) (by omega)) (fun Ms qs => ?_)
            subst qs
            refine st_aload_n dX7_worksOut_64 rfl ?_
            refine st_aload_n dX7_worksOut_65 rfl ?_
            refine st_get dX7_worksOut_66 fl_X7_87 rfl rfl rfl ?_
            refine fAt_v (x' := (k : Int)) (wT_kat _ _ _ _) ?_
            refine st_aload_n dX7_worksOut_69 rfl ?_
            refine st_aload_n dX7_worksOut_70 rfl ?_
            refine st_getr (i' := 0) dX7_worksOut_71 fl_X7_13 rfl rfl rfl (fun _ => by decide) ?_
            refine st_bipush dX7_worksOut_74 (by decide) ?_
            refine st_aload_n dX7_worksOut_76 rfl ?_
            refine st_get dX7_worksOut_77 fl_X7_87 rfl rfl rfl ?_
            refine fAt_v (x' := (k : Int)) (wT_kat _ _ _ _) ?_
            refine st_imul dX7_worksOut_80 (by omega) ?_
            refine st_iload_n dX7_worksOut_81 rfl ?_
            refine st_iadd dX7_worksOut_82 (by omega) ?_
            refine st_iald (j := ((13 * k) + m)) dX7_worksOut_83 rfl rfl rfl (by omega) (by omega) ?_
            refine fAt_v (x' := swp r k C k m) (wW_at (by omega)) ?_
            refine st_callVi [vi (swp r k C k m)] [vi (k : Int), vr 22 0] dX7_worksOut_84 vl_X7_79 rfl rfl rfl rfl (Nat.le_of_ble_eq_true rfl) (by decide) (m_inverseOf (M := wW (wT M (fun q => if q = m then (k : Int) else t q) (k : Int)) (swp r k C)) (w := w0) (p := p) (nOk_k hnk (fun b => rfl)) hkm hnz) (fun iv Mi qi => ?_)
            obtain ⟨⟨i1, i2, i3⟩, q⟩ := qi
            subst Mi
            refine st_callVv [vi (k : Int), vi iv] [] dX7_worksOut_87 vl_X7_90 rfl rfl rfl rfl (Nat.le_of_ble_eq_true rfl) (by decide) (m_multiplies (M := wT M (fun q => if q = m then (k : Int) else t q) (k : Int)) (C := swp r k C) (a := k) hp hpk.1 (by omega) ⟨i1, i2⟩ (fun j hj => hC1 k j hkR hj)) (fun Mm qm => ?_)
            subst qm
            refine st_iconst dX7_worksOut_90 (by decide) ?_
            refine st_istore (ls' := [some (vr 22 0), some (vi (R : Int)), some (vi (u : Int)), some (vi (m : Int)), some (vi (r : Int)), some (vi 0)]) dX7_worksOut_91 (by decide) rfl rfl ?_
            refine worksOut_i (A := A) (C := swp r k C) hp hpk hR hu hkR (by omega) (fun D hD hrD hD0 => ?_) R 0 _ (by omega) (clP_sc13 (by omega) hkR (by omega) (by omega) hC1 i3) (rSc_rng (by omega) hC1) (fun q h1 h2 => absurd h1 (by omega))
            refine fAt_m (show _ = wW (wT M (fun q => if q = m then (k : Int) else t q) ((k + 1 : Nat) : Int)) D by rw [Int.natCast_add]; rfl) ?_
            refine ih (k + 1) _ _ D (by omega) (by omega) (El_some (by omega) hE hkR hD.1 (fun β y => (hD.2.1 β y).trans (hV1 β y)) hD.2.2.1 hD0 (fun i d hi h1 h2 => ?_) (tN_s (by show (if m = m then (k : Int) else t m) = _; rw [if_pos rfl])) (fun d h1 h2 => tN_e (by show (if d = m then (k : Int) else t d) = t d; rw [if_neg (by omega)]))) hrD (fun d h1 h2 => ?_)
            · rw [hD.2.2.2 i d hi (by omega) (by rw [hZ1 k d hkR h1 h2]; exact hE.2.2.2.2.2.1 k (Nat.le_refl k) hkR d (by omega) h2)]
              exact hZ1 i d hi h1 h2
            · show (if d = m then (k : Int) else t d) = -4 ∨ 0 ≤ (if d = m then (k : Int) else t d)
              split
              · right; omega
              · exact ht d (by omega) h2
        · skip
          exact absurd h34 (by omega)
set_option maxHeartbeats 4000000 in
set_option maxRecDepth 100000 in
theorem m_worksOut {g : fG} {M : fM} {p : Int} {A : Nat → Nat → Int} {R u w0 : Nat} (hnk : nOk M w0 p) (hR : R ≤ 11) (hu : u ≤ 11) (hrg : rg p R A) :
    fCi g Y_X7_worksOut [vr 22 0, vi (R : Int), vi (u : Int)] (wW M A) (fun z M' => ∃ C t k, M' = wW (wT M t ((k : Nat) : Int)) C ∧ El p R u A 0 C k (tN t) ∧ (∀ d, d < u → t d = -4 ∨ 0 ≤ t d) ∧ rg p R C ∧ ((z = 1 ∧ ∀ r, k ≤ r → r < R → C r u = 0) ∨ (z = 0 ∧ ¬ ∀ r, k ≤ r → r < R → C r u = 0))) := by
  refine fCi_of _ [some (vr 22 0), some (vi (R : Int)), some (vi (u : Int)), none, none, none] (by decide) (Nat.le_of_ble_eq_true rfl) rfl (fun h => h) ?_
  refine st_aload_n dX7_worksOut_0 rfl ?_
  refine st_iconst dX7_worksOut_1 (by decide) ?_
  refine st_put dX7_worksOut_2 fl_X7_87 fp_X7_3.1 (Or.inl fp_X7_3.2) rfl rfl rfl ?_
  refine fAt_m (congrArg (fun N => fup N 22 0 3 0) (wT_self M A)) ?_
  refine fAt_m (wT_k _ _ _ _ _) ?_
  refine st_iload_n dX7_worksOut_5 rfl ?_
  refine st_iconst dX7_worksOut_6 (by decide) ?_
  refine st_isub dX7_worksOut_7 (by omega) ?_
  refine st_istore_n (ls' := [some (vr 22 0), some (vi (R : Int)), some (vi (u : Int)), some (vi ((u : Int) - 1)), none, none]) dX7_worksOut_8 (by decide) rfl rfl ?_
  exact worksOut_o hnk.2.1 hnk.2.2.1 hR hu hnk u 0 _ (M 25 0) A (by omega) (Nat.le_refl u) (El_0 (fun i j hi hj => hrg i j hi (by omega)) _) hrg (fun d h1 h2 => absurd h2 (by omega))
set_option maxHeartbeats 4000000 in
set_option maxRecDepth 100000 in
theorem m_least {g : fG} {M : fM} {C : Nat → Nat → Int} {t : Nat → Int} {kf : Int} {c u : Nat} (hc : c < 12) (hu : u < 13) (ht : t c = -4 ∨ (0 ≤ t c ∧ t c < 11)) :
    fCi g Y_X7_least [vr 22 0, vi (c : Int), vi (u : Int)] (wW (wT M t kf) C) (fun z M' => z = ansT C u (tN t) c ∧ M' = wW (wT M t kf) C) := by
  refine fCi_of _ [some (vr 22 0), some (vi (c : Int)), some (vi (u : Int))] (by decide) (Nat.le_of_ble_eq_true rfl) rfl (fun h => h) ?_
  refine st_aload_n dX7_least_0 rfl ?_
  refine st_getr (i' := 0) dX7_least_1 fl_X7_16 rfl rfl rfl (fun _ => by decide) ?_
  refine st_iload_n dX7_least_4 rfl ?_
  refine st_iald (j := c) dX7_least_5 rfl rfl rfl rfl (by omega) ?_
  refine fAt_v (x' := t c) (wT_tat _ _ _ _ _) ?_
  refine st_bipush dX7_least_6 (by decide) ?_
  refine st_icmp_ne 15 dX7_least_8 (by decide) (fun h8 => ?_) (fun h8 => ?_)
  · skip
    refine st_aload_n dX7_least_15 rfl ?_
    refine st_getr (i' := 0) dX7_least_16 fl_X7_13 rfl rfl rfl (fun _ => by decide) ?_
    refine st_bipush dX7_least_19 (by decide) ?_
    refine st_aload_n dX7_least_21 rfl ?_
    refine st_getr (i' := 0) dX7_least_22 fl_X7_16 rfl rfl rfl (fun _ => by decide) ?_
    refine st_iload_n dX7_least_25 rfl ?_
    refine st_iald (j := c) dX7_least_26 rfl rfl rfl rfl (by omega) ?_
    refine fAt_v (x' := t c) (wT_tat _ _ _ _ _) ?_
    have hnat : (((t c).toNat : Nat) : Int) = t c := Int.toNat_of_nonneg (by omega)
    refine st_imul dX7_least_27 (by omega) ?_
    refine st_iload_n dX7_least_28 rfl ?_
    refine st_iadd dX7_least_29 (by omega) ?_
    refine st_iald (j := (13 * (t c).toNat + u)) dX7_least_30 rfl rfl rfl (by omega) (by omega) ?_
    refine fAt_v (x' := C (t c).toNat u) (wW_at hu) ?_
    refine st_ireturn dX7_least_31 rfl ⟨_, rfl, ⟨?_, rfl⟩⟩
    unfold ansT
    first | rw [tN_n h8] | rw [tN_s (k := (t c).toNat) (by omega)]
  · skip
    refine st_iconst dX7_least_11 (by decide) ?_
    refine st_goto 31 dX7_least_12 (by decide) ?_
    refine st_ireturn dX7_least_31 rfl ⟨_, rfl, ⟨?_, rfl⟩⟩
    unfold ansT
    first | rw [tN_n h8] | rw [tN_s (k := (t c).toNat) (by omega)]
