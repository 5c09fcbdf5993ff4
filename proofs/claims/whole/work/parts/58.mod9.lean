def mx1 (N : fM) (m c : Nat) : fM := fun k a b => if k = 23 ∧ a = 0 ∧ 4 ≤ b ∧ b < 4 + c then (if b - 4 < m then N 27 0 (b - 4) else 0) else N k a b
theorem mx1_s (N : fM) (m c : Nat) : fup (mx1 N m c) 23 0 (4 + c) (if c < m then N 27 0 c else 0) = mx1 N m (c + 1) := by
  funext k a b
  simp only [mx1, fup]
  by_cases e : k = 23 ∧ a = 0 ∧ b = 4 + c
  · rw [if_pos e, if_pos (show k = 23 ∧ a = 0 ∧ 4 ≤ b ∧ b < 4 + (c + 1) by omega), e.2.2, Nat.add_sub_cancel_left]
  · rw [if_neg e]
    by_cases e2 : k = 23 ∧ a = 0 ∧ 4 ≤ b ∧ b < 4 + c
    · rw [if_pos e2, if_pos (show k = 23 ∧ a = 0 ∧ 4 ≤ b ∧ b < 4 + (c + 1) by omega)]
    · rw [if_neg e2, if_neg (show ¬ (k = 23 ∧ a = 0 ∧ 4 ≤ b ∧ b < 4 + (c + 1)) by omega)]
theorem mx1_0 (N : fM) (m : Nat) : mx1 N m 0 = N := by
  funext k a b
  unfold mx1
  rw [if_neg (by omega)]
def mx2 (N : fM) (r c : Nat) : fM := fun k a b => if k = 23 ∧ a = 0 ∧ 15 ≤ b ∧ b < 15 + c then (if b - 15 < r then N 27 0 (11 + (b - 15)) else 0) else N k a b
theorem mx2_s (N : fM) (r c : Nat) : fup (mx2 N r c) 23 0 (15 + c) (if c < r then N 27 0 (11 + c) else 0) = mx2 N r (c + 1) := by
  funext k a b
  simp only [mx2, fup]
  by_cases e : k = 23 ∧ a = 0 ∧ b = 15 + c
  · rw [if_pos e, if_pos (show k = 23 ∧ a = 0 ∧ 15 ≤ b ∧ b < 15 + (c + 1) by omega), e.2.2, Nat.add_sub_cancel_left]
  · rw [if_neg e]
    by_cases e2 : k = 23 ∧ a = 0 ∧ 15 ≤ b ∧ b < 15 + c
    · rw [if_pos e2, if_pos (show k = 23 ∧ a = 0 ∧ 15 ≤ b ∧ b < 15 + (c + 1) by omega)]
    · rw [if_neg e2, if_neg (show ¬ (k = 23 ∧ a = 0 ∧ 15 ≤ b ∧ b < 15 + (c + 1)) by omega)]
theorem mx2_0 (N : fM) (r : Nat) : mx2 N r 0 = N := by
  funext k a b
  unfold mx2
  rw [if_neg (by omega)]
set_option maxHeartbeats 4000000 in
set_option maxRecDepth 100000 in
theorem mtx_2 {g : fG} {M : fM} {kd : Int} {m r w0 : Nat} :
    ∀ (n c : Nat), c + n = 6 → fAt g Y_X7_matrix 164 [some (vr 22 0), some (vi kd), some (vi (m : Int)), some (vi (w0 : Int)), some (vi (r : Int)), some (vi (c : Int))] [] (mx2 M r c) (fI (fun z M' => z = (w0 : Int) ∧ M' = fup (fup (mx2 M r 6) 22 0 9 0) 22 0 5 0)) := by
  intro n
  induction n with
  | zero =>
    intro c hm
    refine st_iload dX7_matrix_164 rfl ?_
    refine st_bipush dX7_matrix_166 (by decide) ?_
    refine st_icmp_ge 208 dX7_matrix_168 (by decide) (fun h168 => ?_) (fun h168 => ?_)
    · skip
      refine st_aload_n dX7_matrix_208 rfl ?_
      refine st_iconst dX7_matrix_209 (by decide) ?_
      refine st_put dX7_matrix_210 fl_X7_108 fp_X7_9.1 (Or.inl fp_X7_9.2) rfl rfl rfl ?_
      refine st_aload_n dX7_matrix_213 rfl ?_
      refine st_iconst dX7_matrix_214 (by decide) ?_
      refine st_put dX7_matrix_215 fl_X7_133 fp_X7_5.1 (Or.inl fp_X7_5.2) rfl rfl rfl ?_
      refine st_iload_n dX7_matrix_218 rfl ?_
      refine st_ireturn dX7_matrix_219 rfl ⟨_, rfl, ⟨rfl, by rw [show c = 6 by omega]⟩⟩
    · skip
      exact absurd h168 (by omega)
  | succ n ih =>
    intro c hm
    refine st_iload dX7_matrix_164 rfl ?_
    refine st_bipush dX7_matrix_166 (by decide) ?_
    refine st_icmp_ge 208 dX7_matrix_168 (by decide) (fun h168 => ?_) (fun h168 => ?_)
    · skip
      exact absurd h168 (by omega)
    · skip
      refine st_aload_n dX7_matrix_171 rfl ?_
      refine st_getr (i' := 0) dX7_matrix_172 fl_X7_7 rfl rfl rfl (fun _ => by decide) ?_
      refine st_bipush dX7_matrix_175 (by decide) ?_
      refine st_iload dX7_matrix_177 rfl ?_
      refine st_iadd dX7_matrix_179 (by omega) ?_
      refine st_iload dX7_matrix_180 rfl ?_
      refine st_iload dX7_matrix_182 rfl ?_
      refine st_icmp_ge 200 dX7_matrix_184 (by decide) (fun h184 => ?_) (fun h184 => ?_)
      · skip
        refine st_iconst dX7_matrix_200 (by decide) ?_
        refine fAt_v (x' := if c < r then M 27 0 (11 + c) else 0) (by first | (rw [if_pos (by omega)]; done) | rw [if_neg (by omega)]) ?_
        refine st_iast (j := (15 + c)) dX7_matrix_201 rfl rfl rfl (by omega) (by omega) ?_
        refine fAt_m (mx2_s M r c) ?_
        refine st_iinc (ls' := [some (vr 22 0), some (vi kd), some (vi (m : Int)), some (vi (w0 : Int)), some (vi (r : Int)), some (vi ((c : Int) + 1))]) dX7_matrix_202 rfl (by omega) (by decide) rfl rfl ?_
        refine st_goto 164 dX7_matrix_205 (by decide) ?_
        exact ih (c + 1) (by omega)
      · skip
        refine st_aload_n dX7_matrix_187 rfl ?_
        refine st_getr (i' := 0) dX7_matrix_188 fl_X7_22 rfl rfl rfl (fun _ => by decide) ?_
        refine st_bipush dX7_matrix_191 (by decide) ?_
        refine st_iload dX7_matrix_193 rfl ?_
        refine st_iadd dX7_matrix_195 (by omega) ?_
        refine st_iald (j := (11 + c)) dX7_matrix_196 rfl rfl rfl (by omega) (by omega) ?_
        refine fAt_v (x' := M 27 0 (11 + c)) (by unfold mx2; rw [if_neg (by omega)]) ?_
        refine st_goto 201 dX7_matrix_197 (by decide) ?_
        refine fAt_v (x' := if c < r then M 27 0 (11 + c) else 0) (by first | (rw [if_pos (by omega)]; done) | rw [if_neg (by omega)]) ?_
        refine st_iast (j := (15 + c)) dX7_matrix_201 rfl rfl rfl (by omega) (by omega) ?_
        refine fAt_m (mx2_s M r c) ?_
        refine st_iinc (ls' := [some (vr 22 0), some (vi kd), some (vi (m : Int)), some (vi (w0 : Int)), some (vi (r : Int)), some (vi ((c : Int) + 1))]) dX7_matrix_202 rfl (by omega) (by decide) rfl rfl ?_
        refine st_goto 164 dX7_matrix_205 (by decide) ?_
        exact ih (c + 1) (by omega)
set_option maxHeartbeats 4000000 in
set_option maxRecDepth 100000 in
theorem mtx_1 {g : fG} {M : fM} {kd : Int} {m r w0 : Nat} :
    ∀ (n c : Nat), c + n = 11 → fAt g Y_X7_matrix 122 [some (vr 22 0), some (vi kd), some (vi (m : Int)), some (vi (w0 : Int)), some (vi (r : Int)), some (vi (c : Int))] [] (mx1 M m c) (fI (fun z M' => z = (w0 : Int) ∧ M' = fup (fup (mx2 (mx1 M m 11) r 6) 22 0 9 0) 22 0 5 0)) := by
  intro n
  induction n with
  | zero =>
    intro c hm
    refine st_iload dX7_matrix_122 rfl ?_
    refine st_bipush dX7_matrix_124 (by decide) ?_
    refine st_icmp_ge 161 dX7_matrix_126 (by decide) (fun h126 => ?_) (fun h126 => ?_)
    · skip
      refine st_iconst dX7_matrix_161 (by decide) ?_
      refine st_istore (ls' := [some (vr 22 0), some (vi kd), some (vi (m : Int)), some (vi (w0 : Int)), some (vi (r : Int)), some (vi 0)]) dX7_matrix_162 (by decide) rfl rfl ?_
      refine fAt_m (show _ = mx2 (mx1 M m 11) r 0 from by rw [mx2_0, show c = 11 by omega]) ?_
      exact mtx_2 6 0 (by omega)
    · skip
      exact absurd h126 (by omega)
  | succ n ih =>
    intro c hm
    refine st_iload dX7_matrix_122 rfl ?_
    refine st_bipush dX7_matrix_124 (by decide) ?_
    refine st_icmp_ge 161 dX7_matrix_126 (by decide) (fun h126 => ?_) (fun h126 => ?_)
    · skip
      exact absurd h126 (by omega)
    · skip
      refine st_aload_n dX7_matrix_129 rfl ?_
      refine st_getr (i' := 0) dX7_matrix_130 fl_X7_7 rfl rfl rfl (fun _ => by decide) ?_
      refine st_iconst dX7_matrix_133 (by decide) ?_
      refine st_iload dX7_matrix_134 rfl ?_
      refine st_iadd dX7_matrix_136 (by omega) ?_
      refine st_iload dX7_matrix_137 rfl ?_
      refine st_iload_n dX7_matrix_139 rfl ?_
      refine st_icmp_ge 153 dX7_matrix_140 (by decide) (fun h140 => ?_) (fun h140 => ?_)
      · skip
        refine st_iconst dX7_matrix_153 (by decide) ?_
        refine fAt_v (x' := if c < m then M 27 0 c else 0) (by first | (rw [if_pos (by omega)]; done) | rw [if_neg (by omega)]) ?_
        refine st_iast (j := (4 + c)) dX7_matrix_154 rfl rfl rfl (by omega) (by omega) ?_
        refine fAt_m (mx1_s M m c) ?_
        refine st_iinc (ls' := [some (vr 22 0), some (vi kd), some (vi (m : Int)), some (vi (w0 : Int)), some (vi (r : Int)), some (vi ((c : Int) + 1))]) dX7_matrix_155 rfl (by omega) (by decide) rfl rfl ?_
        refine st_goto 122 dX7_matrix_158 (by decide) ?_
        exact ih (c + 1) (by omega)
      · skip
        refine st_aload_n dX7_matrix_143 rfl ?_
        refine st_getr (i' := 0) dX7_matrix_144 fl_X7_22 rfl rfl rfl (fun _ => by decide) ?_
        refine st_iload dX7_matrix_147 rfl ?_
        refine st_iald (j := c) dX7_matrix_149 rfl rfl rfl rfl (by omega) ?_
        refine fAt_v (x' := M 27 0 c) (by unfold mx1; rw [if_neg (by omega)]) ?_
        refine st_goto 154 dX7_matrix_150 (by decide) ?_
        refine fAt_v (x' := if c < m then M 27 0 c else 0) (by first | (rw [if_pos (by omega)]; done) | rw [if_neg (by omega)]) ?_
        refine st_iast (j := (4 + c)) dX7_matrix_154 rfl rfl rfl (by omega) (by omega) ?_
        refine fAt_m (mx1_s M m c) ?_
        refine st_iinc (ls' := [some (vr 22 0), some (vi kd), some (vi (m : Int)), some (vi (w0 : Int)), some (vi (r : Int)), some (vi ((c : Int) + 1))]) dX7_matrix_155 rfl (by omega) (by decide) rfl rfl ?_
        refine st_goto 122 dX7_matrix_158 (by decide) ?_
        exact ih (c + 1) (by omega)
def mMx (M : fM) (tp : Nat → Int) (ln : Nat) (p : Int) : fM := fun k a b => if k = 22 ∧ a = 0 ∧ (b = 5 ∨ b = 9) then 0 else if k = 23 ∧ a = 0 then (if b = 0 then ((tW tp ln p : Nat) : Int) else if b = 1 then kb (lr tp ln (tS0 tp ln) (-1)) else if 4 ≤ b ∧ b < 15 then (if b - 4 < (tR1 tp ln p).2.1 then vlp tp ln (tS0 tp ln + 1) (b - 4) else 0) else if 15 ≤ b ∧ b < 21 then (if isC tp ln (tR1 tp ln p).2.2 61 ∧ b - 15 < tW tp ln p then vlp tp ln ((tR1 tp ln p).2.2 + 1) (b - 15) else 0) else M 23 0 b) else M k a b
theorem mMx_S {M N : fM} {tp : Nat → Int} {ln : Nat} {p : Int} {q r : Nat} (hr : r = if isC tp ln (tR1 tp ln p).2.2 61 then tW tp ln p else 0) (h27 : nuS M N) (h1 : ∀ j, j < (tR1 tp ln p).2.1 → N 27 0 j = vlp tp ln (tS0 tp ln + 1) j) (h2 : ∀ i, i < r → N 27 0 (11 + i) = vlp tp ln ((tR1 tp ln p).2.2 + 1) i) :
    mS (mMx M tp ln p) (fup (fup (mx2 (mx1 (fup (fup (mP N q) 23 0 0 ((tW tp ln p : Nat) : Int)) 23 0 1 (kb (lr tp ln (tS0 tp ln) (-1)))) (tR1 tp ln p).2.1 11) r 6) 22 0 9 0) 22 0 5 0) := by
  intro k a b q1 q2 q3 q4 q5 q6 q7
  unfold mMx
  by_cases e1 : k = 22 ∧ a = 0 ∧ (b = 5 ∨ b = 9)
  · rw [if_pos e1]
    rcases e1.2.2 with e | e
    · rw [e1.1, e1.2.1, e, fup_eq]
    · rw [e1.1, e1.2.1, e, fup_ne (by omega), fup_eq]
  · rw [if_neg e1, fup_ne (by omega), fup_ne (by omega)]
    by_cases e2 : k = 23 ∧ a = 0
    · obtain ⟨rfl, rfl⟩ := e2
      rw [if_pos ⟨rfl, rfl⟩]
      unfold mx2
      by_cases e3 : 15 ≤ b ∧ b < 21
      · rw [if_pos ⟨rfl, rfl, by omega, by omega⟩, if_neg (show ¬ b = 0 by omega), if_neg (show ¬ b = 1 by omega), if_neg (show ¬ (4 ≤ b ∧ b < 15) by omega), if_pos e3]
        have ex : ∀ j, mx1 (fup (fup (mP N q) 23 0 0 ((tW tp ln p : Nat) : Int)) 23 0 1 (kb (lr tp ln (tS0 tp ln) (-1)))) (tR1 tp ln p).2.1 11 27 0 j = N 27 0 j := fun j => by
          unfold mx1
          rw [if_neg (by omega), fup_ne (by omega), fup_ne (by omega), mP_ne (by omega)]
        rw [ex]
        by_cases e4 : b - 15 < r
        · rw [if_pos e4, h2 _ e4]
          by_cases e5 : isC tp ln (tR1 tp ln p).2.2 61
          · rw [if_pos e5] at hr
            rw [if_pos ⟨e5, by omega⟩]
          · rw [if_neg e5] at hr
            omega
        · rw [if_neg e4]
          by_cases e5 : isC tp ln (tR1 tp ln p).2.2 61
          · rw [if_pos e5] at hr
            rw [if_neg (by omega)]
          · rw [if_neg (fun h => e5 h.1)]
      · rw [if_neg (by omega)]
        unfold mx1
        by_cases e4 : 4 ≤ b ∧ b < 15
        · rw [if_pos ⟨rfl, rfl, by omega, by omega⟩, if_neg (show ¬ b = 0 by omega), if_neg (show ¬ b = 1 by omega), if_pos e4]
          by_cases e5 : b - 4 < (tR1 tp ln p).2.1
          · rw [if_pos e5, if_pos e5, fup_ne (by omega), fup_ne (by omega), mP_ne (by omega), h1 _ e5]
          · rw [if_neg e5, if_neg e5]
        · rw [if_neg (by omega)]
          by_cases e5 : b = 0
          · rw [e5, if_pos rfl, fup_ne (by omega), fup_eq]
          · rw [if_neg e5]
            by_cases e6 : b = 1
            · rw [e6, if_pos rfl, fup_eq]
            · rw [if_neg e6, if_neg e4, if_neg e3, fup_ne (by omega), fup_ne (by omega), mP_ne (by omega), h27 _ _ _ (by decide)]
    · rw [if_neg e2]
      unfold mx2 mx1
      rw [if_neg (by omega), if_neg (by omega), fup_ne (by omega), fup_ne (by omega), mP_ne (by omega), h27 _ _ _ q3]
theorem mS_f {M N : fM} {q : Nat} (h : nuS M N) : mS (fup M 22 0 5 0) (fup (mP N q) 22 0 5 0) := mS_u (mS_P h)
set_option maxHeartbeats 4000000 in
set_option maxRecDepth 100000 in
theorem m_matrix {g : fG} {M : fM} {tp : Nat → Int} {ln : Nat} {p : Int} (hn7 : ln ≤ 70) (hp2 : 2 ≤ p ∧ p ≤ 97) (ht : M 26 0 = tp) (hl : M 22 0 5 = (ln : Int)) (hp : M 23 0 2 = p) (hT : ∀ b, b < ln → 0 < tp b) :
    fCi g Y_X7_matrix [vr 22 0] M (fun z M' => (∃ x, mtF tp ln p = some x ∧ z = -20 - (x : Int) ∧ mS (fup M 22 0 5 0) M') ∨ (mtF tp ln p = none ∧ z = ((tW tp ln p : Nat) : Int) ∧ mS (mMx M tp ln p) M')) := by
  refine fCi_of _ [some (vr 22 0), none, none, none, none, none] (by decide) (Nat.le_of_ble_eq_true rfl) rfl (fun h => h) ?_
  refine st_aload_n dX7_matrix_0 rfl ?_
  refine st_iconst dX7_matrix_1 (by decide) ?_
  refine st_put dX7_matrix_2 fl_X7_136 fp_X7_6.1 (Or.inl fp_X7_6.2) rfl rfl rfl ?_
  refine fAt_m (show _ = mP M 0 from rfl) ?_
  have hs0 := sk_le (tp := tp) (Nat.zero_le ln)
  refine st_aload_n dX7_matrix_5 rfl ?_
  refine st_callVi [] [] dX7_matrix_6 vl_X7_139 rfl rfl rfl rfl (Nat.le_of_ble_eq_true rfl) (by decide) (m_here (M := M) (tp := tp) (ln := ln) (q := 0) ht hl hn7 (Nat.zero_le _)) (fun zh Mh qh => ?_)
  obtain ⟨rfl, h0h⟩ := qh
  subst Mh
  refine st_callSi [vi (lr tp ln (sk tp ln 0) 0)] [] dX7_matrix_9 sl_X7_156 rfl rfl (Nat.le_of_ble_eq_true rfl) (by decide) (m_kindBy) (fun zk Mk qk => ?_)
  obtain ⟨rfl, h0k⟩ := qk
  subst Mk
  refine fAt_v (x' := (kb (lr tp ln (sk tp ln 0) (-1)))) kb_0 ?_
  refine st_istore_n (ls' := [some (vr 22 0), some (vi (kb (lr tp ln (sk tp ln 0) (-1)))), none, none, none, none]) dX7_matrix_12 (by decide) rfl rfl ?_
  refine st_iload_n dX7_matrix_13 rfl ?_
  refine st_if_ge 22 dX7_matrix_14 (by decide) (fun h14 => ?_) (fun h14 => ?_)
  · skip
    have h35k : 0 ≤ (kb (lr tp ln (sk tp ln 0) (-1))) := by omega
    have hs1 := kb_ne h35k
    refine st_aload_n dX7_matrix_22 rfl ?_
    refine st_dup dX7_matrix_23 rfl ?_
    refine st_get dX7_matrix_24 fl_X7_136 rfl rfl rfl ?_
    refine fAt_v (x' := (((sk tp ln 0) : Nat) : Int)) (mP_r _ _) ?_
    refine st_iconst dX7_matrix_27 (by decide) ?_
    refine st_iadd dX7_matrix_28 (by omega) ?_
    refine st_put dX7_matrix_29 fl_X7_136 fp_X7_6.1 (Or.inl fp_X7_6.2) rfl rfl rfl ?_
    refine fAt_m (mP_p M _ ((sk tp ln 0) + 1)) ?_
    refine st_aload_n dX7_matrix_32 rfl ?_
    refine st_iconst dX7_matrix_33 (by decide) ?_
    refine st_bipush dX7_matrix_34 (by decide) ?_
    refine st_callVi [vi 0, vi 11] [] dX7_matrix_36 vl_X7_162 rfl rfl rfl rfl (Nat.le_of_ble_eq_true rfl) (by decide) (m_numbers (M := M) (tp := tp) (ln := ln) (fr := 0) (mo := 11) (p := p) hn7 hp2 (by omega) (by omega) (q := (sk tp ln 0) + 1) (by omega) ht hl hp) (fun zn Mn qn => ?_)
    rcases qn with ⟨x, r1, hxl, N1, h0, hnu, ⟨rfl, hsx⟩ | ⟨hz1, hz2, hdx⟩⟩ | ⟨r1, rfl, q', hq', hsq, h0⟩
    · skip
      subst Mn
      have ht1 : N1 26 0 = tp := (funext fun b => hnu 26 0 b (by decide)).trans ht
      have hl1 : N1 22 0 5 = (ln : Int) := (hnu 22 0 5 (by decide)).trans hl
      refine st_istore_n (ls' := [some (vr 22 0), some (vi (kb (lr tp ln (sk tp ln 0) (-1)))), some (vi (-1)), none, none, none]) dX7_matrix_39 (by decide) rfl rfl ?_
      refine st_iload_n dX7_matrix_40 rfl ?_
      refine st_if_lt 50 dX7_matrix_41 (by decide) (fun h41 => ?_) (fun h41 => ?_)
      · skip
        refine st_aload_n dX7_matrix_50 rfl ?_
        refine st_callVi [] [] dX7_matrix_51 vl_X7_159 rfl rfl rfl rfl (Nat.le_of_ble_eq_true rfl) (by decide) (m_fault (M := N1) (tp := tp) (ln := ln) ht1 hl1 hn7 (q := x) hxl hT) (fun zf Mf qf => ?_)
        obtain ⟨rfl, h0f⟩ := qf
        subst Mf
        rw [hsx]
        refine st_ireturn dX7_matrix_54 rfl ⟨_, rfl, Or.inl ⟨x, (by rw [mtF_e]; rw [if_neg (by omega), if_pos (by rw [r1]; rfl)]; exact r1), rfl, mS_f hnu⟩⟩
      · skip
        exact absurd h41 (by decide)
    · skip
      subst Mn
      have hsx := sk_D hdx
      have ht1 : N1 26 0 = tp := (funext fun b => hnu 26 0 b (by decide)).trans ht
      have hl1 : N1 22 0 5 = (ln : Int) := (hnu 22 0 5 (by decide)).trans hl
      refine st_istore_n (ls' := [some (vr 22 0), some (vi (kb (lr tp ln (sk tp ln 0) (-1)))), some (vi zn), none, none, none]) dX7_matrix_39 (by decide) rfl rfl ?_
      refine st_iload_n dX7_matrix_40 rfl ?_
      refine st_if_lt 50 dX7_matrix_41 (by decide) (fun h41 => ?_) (fun h41 => ?_)
      · skip
        exact absurd h41 (by omega)
      · skip
        refine st_iload_n dX7_matrix_44 rfl ?_
        refine st_iconst dX7_matrix_45 (by decide) ?_
        refine st_irem dX7_matrix_46 (by omega) (by omega) ?_
        refine st_if_ne 55 dX7_matrix_47 (by decide) (fun h47 => ?_) (fun h47 => ?_)
        · skip
          refine st_iload_n dX7_matrix_55 rfl ?_
          refine st_iconst dX7_matrix_56 (by decide) ?_
          refine st_iadd dX7_matrix_57 (by omega) ?_
          refine st_iconst dX7_matrix_58 (by decide) ?_
          refine st_idiv dX7_matrix_59 (by omega) (by omega) ?_
          refine st_istore_n (ls' := [some (vr 22 0), some (vi (kb (lr tp ln (sk tp ln 0) (-1)))), some (vi zn), some (vi ((zn + 1) / 2)), none, none]) dX7_matrix_60 (by decide) rfl rfl ?_
          refine st_iconst dX7_matrix_61 (by decide) ?_
          refine st_istore (ls' := [some (vr 22 0), some (vi (kb (lr tp ln (sk tp ln 0) (-1)))), some (vi zn), some (vi ((zn + 1) / 2)), some (vi 0), none]) dX7_matrix_62 (by decide) rfl rfl ?_
          refine st_aload_n dX7_matrix_64 rfl ?_
          refine st_bipush dX7_matrix_65 (by decide) ?_
          refine st_callVi [vi 61] [] dX7_matrix_67 vl_X7_153 rfl rfl rfl rfl (Nat.le_of_ble_eq_true rfl) (by decide) (m_has (M := N1) (tp := tp) (ln := ln) ht1 hl1 hn7 (q := x) (c := 61) hxl (by decide)) (fun zh Mh qh => ?_)
          rcases qh with ⟨rfl, hc1, h0⟩ | ⟨rfl, hc1, h0⟩
          · skip
            exact absurd hc1 (by rw [hsx]; omega)
          · skip
            rw [hsx] at h0
            subst Mh
            refine st_if_eq 93 dX7_matrix_70 (by decide) (fun h70 => ?_) (fun h70 => ?_)
            · skip
              refine st_aload_n dX7_matrix_93 rfl ?_
              refine st_callVi [] [] dX7_matrix_94 vl_X7_139 rfl rfl rfl rfl (Nat.le_of_ble_eq_true rfl) (by decide) (m_here (M := N1) (tp := tp) (ln := ln) (q := x) ht1 hl1 hn7 (by omega)) (fun zh2 Mh2 qh2 => ?_)
              obtain ⟨rfl, h0h2⟩ := qh2
              subst Mh2
              rw [hsx]
              refine st_if_eq 105 dX7_matrix_97 (by decide) (fun h97 => ?_) (fun h97 => ?_)
              · skip
                exact absurd ((lr_z hT).mp h97) (by omega)
              · skip
                refine st_aload_n dX7_matrix_100 rfl ?_
                refine st_callVi [] [] dX7_matrix_101 vl_X7_159 rfl rfl rfl rfl (Nat.le_of_ble_eq_true rfl) (by decide) (m_fault (M := N1) (tp := tp) (ln := ln) ht1 hl1 hn7 (q := x) hxl hT) (fun zf Mf qf => ?_)
                obtain ⟨rfl, h0f⟩ := qf
                subst Mf
                rw [hsx]
                refine st_ireturn dX7_matrix_104 rfl ⟨_, rfl, Or.inl ⟨x, (by rw [mtF_e]; rw [if_neg (by omega), if_pos (by rw [r1]; rfl)]; exact r1), rfl, mS_f hnu⟩⟩
            · skip
              exact absurd rfl h70
        · skip
          refine st_aload_n dX7_matrix_50 rfl ?_
          refine st_callVi [] [] dX7_matrix_51 vl_X7_159 rfl rfl rfl rfl (Nat.le_of_ble_eq_true rfl) (by decide) (m_fault (M := N1) (tp := tp) (ln := ln) ht1 hl1 hn7 (q := x) hxl hT) (fun zf Mf qf => ?_)
          obtain ⟨rfl, h0f⟩ := qf
          subst Mf
          rw [hsx]
          refine st_ireturn dX7_matrix_54 rfl ⟨_, rfl, Or.inl ⟨x, (by rw [mtF_e]; rw [if_neg (by omega), if_pos (by rw [r1]; rfl)]; exact r1), rfl, mS_f hnu⟩⟩
    · skip
      subst Mn
      have ht1 : (rwV M 0 (rwp tp ln p 11 ((sk tp ln 0) + 1)).2.1 (vlp tp ln ((sk tp ln 0) + 1))) 26 0 = tp := (funext fun b => nuS_w 26 0 b (by decide)).trans ht
      have hl1 : (rwV M 0 (rwp tp ln p 11 ((sk tp ln 0) + 1)).2.1 (vlp tp ln ((sk tp ln 0) + 1))) 22 0 5 = (ln : Int) := (nuS_w 22 0 5 (by decide)).trans hl
      have hp1 : (rwV M 0 (rwp tp ln p 11 ((sk tp ln 0) + 1)).2.1 (vlp tp ln ((sk tp ln 0) + 1))) 23 0 2 = p := (nuS_w 23 0 2 (by decide)).trans hp
      have hb1 : 1 ≤ (rwp tp ln p 11 ((sk tp ln 0) + 1)).2.1 ∧ (rwp tp ln p 11 ((sk tp ln 0) + 1)).2.1 ≤ 11 ∧ (rwp tp ln p 11 ((sk tp ln 0) + 1)).2.2 ≤ ln ∧ ∀ i, i < (rwp tp ln p 11 ((sk tp ln 0) + 1)).2.1 → 0 ≤ vlp tp ln ((sk tp ln 0) + 1) i ∧ vlp tp ln ((sk tp ln 0) + 1) i < p := rwp_b (tp := tp) (p := p) 10 ((sk tp ln 0) + 1) (by omega) r1
      refine st_istore_n (ls' := [some (vr 22 0), some (vi (kb (lr tp ln (sk tp ln 0) (-1)))), some (vi (((rwp tp ln p 11 ((sk tp ln 0) + 1)).2.1 : Nat) : Int)), none, none, none]) dX7_matrix_39 (by decide) rfl rfl ?_
      refine st_iload_n dX7_matrix_40 rfl ?_
      refine st_if_lt 50 dX7_matrix_41 (by decide) (fun h41 => ?_) (fun h41 => ?_)
      · skip
        exact absurd h41 (by omega)
      · skip
        refine st_iload_n dX7_matrix_44 rfl ?_
        refine st_iconst dX7_matrix_45 (by decide) ?_
        refine st_irem dX7_matrix_46 (by omega) (by omega) ?_
        refine st_if_ne 55 dX7_matrix_47 (by decide) (fun h47 => ?_) (fun h47 => ?_)
        · skip
          have r2 : (rwp tp ln p 11 ((sk tp ln 0) + 1)).2.1 % 2 = 1 := by omega
          refine st_iload_n dX7_matrix_55 rfl ?_
          refine st_iconst dX7_matrix_56 (by decide) ?_
          refine st_iadd dX7_matrix_57 (by omega) ?_
          refine st_iconst dX7_matrix_58 (by decide) ?_
          refine st_idiv dX7_matrix_59 (by omega) (by omega) ?_
          refine st_istore_n (ls' := [some (vr 22 0), some (vi (kb (lr tp ln (sk tp ln 0) (-1)))), some (vi (((rwp tp ln p 11 ((sk tp ln 0) + 1)).2.1 : Nat) : Int)), some (vi (((((rwp tp ln p 11 ((sk tp ln 0) + 1)).2.1 : Nat) : Int) + 1) / 2)), none, none]) dX7_matrix_60 (by decide) rfl rfl ?_
          refine st_iconst dX7_matrix_61 (by decide) ?_
          refine st_istore (ls' := [some (vr 22 0), some (vi (kb (lr tp ln (sk tp ln 0) (-1)))), some (vi (((rwp tp ln p 11 ((sk tp ln 0) + 1)).2.1 : Nat) : Int)), some (vi (((((rwp tp ln p 11 ((sk tp ln 0) + 1)).2.1 : Nat) : Int) + 1) / 2)), some (vi 0), none]) dX7_matrix_62 (by decide) rfl rfl ?_
          refine st_aload_n dX7_matrix_64 rfl ?_
          refine st_bipush dX7_matrix_65 (by decide) ?_
          refine st_callVi [vi 61] [] dX7_matrix_67 vl_X7_153 rfl rfl rfl rfl (Nat.le_of_ble_eq_true rfl) (by decide) (m_has (M := (rwV M 0 (rwp tp ln p 11 ((sk tp ln 0) + 1)).2.1 (vlp tp ln ((sk tp ln 0) + 1)))) (tp := tp) (ln := ln) ht1 hl1 hn7 (q := q') (c := 61) hq' (by decide)) (fun zh Mh qh => ?_)
          rw [hsq] at qh
          rcases qh with ⟨rfl, hc, h0⟩ | ⟨rfl, hc, h0⟩
          · skip
            subst Mh
            refine st_if_eq 93 dX7_matrix_70 (by decide) (fun h70 => ?_) (fun h70 => ?_)
            · skip
              exact absurd h70 (by decide)
            · skip
              refine st_aload_n dX7_matrix_73 rfl ?_
              refine st_bipush dX7_matrix_74 (by decide) ?_
              refine st_iload_n dX7_matrix_76 rfl ?_
              refine st_callVi [vi 11, vi (((((rwp tp ln p 11 ((sk tp ln 0) + 1)).2.1 : Nat) : Int) + 1) / 2)] [] dX7_matrix_77 vl_X7_162 rfl rfl rfl rfl (Nat.le_of_ble_eq_true rfl) (by decide) (m_numbers (M := (rwV M 0 (rwp tp ln p 11 ((sk tp ln 0) + 1)).2.1 (vlp tp ln ((sk tp ln 0) + 1)))) (tp := tp) (ln := ln) (fr := 11) (mo := (((rwp tp ln p 11 ((sk tp ln 0) + 1)).2.1 + 1) / 2)) (p := p) hn7 hp2 (by omega) (by omega) (q := (rwp tp ln p 11 ((sk tp ln 0) + 1)).2.2 + 1) (by omega) ht1 hl1 hp1) (fun zn2 Mn2 qn2 => ?_)
              rcases qn2 with ⟨x, s1, hxl, N2, h0, hnu, ⟨rfl, hsx⟩ | ⟨hz1, hz2, hdx⟩⟩ | ⟨s1, rfl, q2, hq2, hsq2, h0⟩
              · skip
                subst Mn2
                have ht2 : N2 26 0 = tp := (funext fun b => hnu 26 0 b (by decide)).trans ht1
                have hl2 : N2 22 0 5 = (ln : Int) := (hnu 22 0 5 (by decide)).trans hl1
                refine st_istore (ls' := [some (vr 22 0), some (vi (kb (lr tp ln (sk tp ln 0) (-1)))), some (vi (((rwp tp ln p 11 ((sk tp ln 0) + 1)).2.1 : Nat) : Int)), some (vi (((((rwp tp ln p 11 ((sk tp ln 0) + 1)).2.1 : Nat) : Int) + 1) / 2)), some (vi (-1)), none]) dX7_matrix_80 (by decide) rfl rfl ?_
                refine st_iload dX7_matrix_82 rfl ?_
                refine st_iload_n dX7_matrix_84 rfl ?_
                refine st_icmp_eq 93 dX7_matrix_85 (by decide) (fun h85 => ?_) (fun h85 => ?_)
                · skip
                  exact absurd h85 (by omega)
                · skip
                  refine st_aload_n dX7_matrix_88 rfl ?_
                  refine st_callVi [] [] dX7_matrix_89 vl_X7_159 rfl rfl rfl rfl (Nat.le_of_ble_eq_true rfl) (by decide) (m_fault (M := N2) (tp := tp) (ln := ln) ht2 hl2 hn7 (q := x) hxl hT) (fun zf Mf qf => ?_)
                  obtain ⟨rfl, h0f⟩ := qf
                  subst Mf
                  rw [hsx]
                  refine st_ireturn dX7_matrix_92 rfl ⟨_, rfl, Or.inl ⟨x, (by rw [mtF_e]; rw [if_neg (by omega), if_neg (by rw [r1]; decide), if_neg (by omega), if_pos hc, if_pos (by rw [s1]; rfl)]; exact s1), rfl, mS_f (nuS_t nuS_w hnu)⟩⟩
              · skip
                subst Mn2
                have hsx := sk_D hdx
                have ht2 : N2 26 0 = tp := (funext fun b => hnu 26 0 b (by decide)).trans ht1
                have hl2 : N2 22 0 5 = (ln : Int) := (hnu 22 0 5 (by decide)).trans hl1
                refine st_istore (ls' := [some (vr 22 0), some (vi (kb (lr tp ln (sk tp ln 0) (-1)))), some (vi (((rwp tp ln p 11 ((sk tp ln 0) + 1)).2.1 : Nat) : Int)), some (vi (((((rwp tp ln p 11 ((sk tp ln 0) + 1)).2.1 : Nat) : Int) + 1) / 2)), some (vi zn2), none]) dX7_matrix_80 (by decide) rfl rfl ?_
                refine st_iload dX7_matrix_82 rfl ?_
                refine st_iload_n dX7_matrix_84 rfl ?_
                refine st_icmp_eq 93 dX7_matrix_85 (by decide) (fun h85 => ?_) (fun h85 => ?_)
                · skip
                  refine st_aload_n dX7_matrix_93 rfl ?_
                  refine st_callVi [] [] dX7_matrix_94 vl_X7_139 rfl rfl rfl rfl (Nat.le_of_ble_eq_true rfl) (by decide) (m_here (M := N2) (tp := tp) (ln := ln) (q := x) ht2 hl2 hn7 (by omega)) (fun zh2 Mh2 qh2 => ?_)
                  obtain ⟨rfl, h0h2⟩ := qh2
                  subst Mh2
                  rw [hsx]
                  refine st_if_eq 105 dX7_matrix_97 (by decide) (fun h97 => ?_) (fun h97 => ?_)
                  · skip
                    exact absurd ((lr_z hT).mp h97) (by omega)
                  · skip
                    refine st_aload_n dX7_matrix_100 rfl ?_
                    refine st_callVi [] [] dX7_matrix_101 vl_X7_159 rfl rfl rfl rfl (Nat.le_of_ble_eq_true rfl) (by decide) (m_fault (M := N2) (tp := tp) (ln := ln) ht2 hl2 hn7 (q := x) hxl hT) (fun zf Mf qf => ?_)
                    obtain ⟨rfl, h0f⟩ := qf
                    subst Mf
                    rw [hsx]
                    refine st_ireturn dX7_matrix_104 rfl ⟨_, rfl, Or.inl ⟨x, (by rw [mtF_e]; rw [if_neg (by omega), if_neg (by rw [r1]; decide), if_neg (by omega), if_pos hc, if_pos (by rw [s1]; rfl)]; exact s1), rfl, mS_f (nuS_t nuS_w hnu)⟩⟩
                · skip
                  refine st_aload_n dX7_matrix_88 rfl ?_
                  refine st_callVi [] [] dX7_matrix_89 vl_X7_159 rfl rfl rfl rfl (Nat.le_of_ble_eq_true rfl) (by decide) (m_fault (M := N2) (tp := tp) (ln := ln) ht2 hl2 hn7 (q := x) hxl hT) (fun zf Mf qf => ?_)
                  obtain ⟨rfl, h0f⟩ := qf
                  subst Mf
                  rw [hsx]
                  refine st_ireturn dX7_matrix_92 rfl ⟨_, rfl, Or.inl ⟨x, (by rw [mtF_e]; rw [if_neg (by omega), if_neg (by rw [r1]; decide), if_neg (by omega), if_pos hc, if_pos (by rw [s1]; rfl)]; exact s1), rfl, mS_f (nuS_t nuS_w hnu)⟩⟩
              · skip
                subst Mn2
                have ht2 : (rwV (rwV M 0 (rwp tp ln p 11 ((sk tp ln 0) + 1)).2.1 (vlp tp ln ((sk tp ln 0) + 1))) 11 (rwp tp ln p (((rwp tp ln p 11 ((sk tp ln 0) + 1)).2.1 + 1) / 2) ((rwp tp ln p 11 ((sk tp ln 0) + 1)).2.2 + 1)).2.1 (vlp tp ln ((rwp tp ln p 11 ((sk tp ln 0) + 1)).2.2 + 1))) 26 0 = tp := (funext fun b => nuS_w 26 0 b (by decide)).trans ht1
                have hl2 : (rwV (rwV M 0 (rwp tp ln p 11 ((sk tp ln 0) + 1)).2.1 (vlp tp ln ((sk tp ln 0) + 1))) 11 (rwp tp ln p (((rwp tp ln p 11 ((sk tp ln 0) + 1)).2.1 + 1) / 2) ((rwp tp ln p 11 ((sk tp ln 0) + 1)).2.2 + 1)).2.1 (vlp tp ln ((rwp tp ln p 11 ((sk tp ln 0) + 1)).2.2 + 1))) 22 0 5 = (ln : Int) := (nuS_w 22 0 5 (by decide)).trans hl1
                have hss2 : sk tp ln (rwp tp ln p (((rwp tp ln p 11 ((sk tp ln 0) + 1)).2.1 + 1) / 2) ((rwp tp ln p 11 ((sk tp ln 0) + 1)).2.2 + 1)).2.2 = (rwp tp ln p (((rwp tp ln p 11 ((sk tp ln 0) + 1)).2.1 + 1) / 2) ((rwp tp ln p 11 ((sk tp ln 0) + 1)).2.2 + 1)).2.2 := by rw [← hsq2]; exact sk_sk hq2
                have he2 : (rwp tp ln p (((rwp tp ln p 11 ((sk tp ln 0) + 1)).2.1 + 1) / 2) ((rwp tp ln p 11 ((sk tp ln 0) + 1)).2.2 + 1)).2.2 ≤ ln := by rw [← hsq2]; exact (sk_le hq2).2
                refine st_istore (ls' := [some (vr 22 0), some (vi (kb (lr tp ln (sk tp ln 0) (-1)))), some (vi (((rwp tp ln p 11 ((sk tp ln 0) + 1)).2.1 : Nat) : Int)), some (vi (((((rwp tp ln p 11 ((sk tp ln 0) + 1)).2.1 : Nat) : Int) + 1) / 2)), some (vi (((rwp tp ln p (((rwp tp ln p 11 ((sk tp ln 0) + 1)).2.1 + 1) / 2) ((rwp tp ln p 11 ((sk tp ln 0) + 1)).2.2 + 1)).2.1 : Nat) : Int)), none]) dX7_matrix_80 (by decide) rfl rfl ?_
                refine st_iload dX7_matrix_82 rfl ?_
                refine st_iload_n dX7_matrix_84 rfl ?_
                refine st_icmp_eq 93 dX7_matrix_85 (by decide) (fun h85 => ?_) (fun h85 => ?_)
                · skip
                  have s2 : (rwp tp ln p (((rwp tp ln p 11 ((sk tp ln 0) + 1)).2.1 + 1) / 2) ((rwp tp ln p 11 ((sk tp ln 0) + 1)).2.2 + 1)).2.1 = (((rwp tp ln p 11 ((sk tp ln 0) + 1)).2.1 + 1) / 2) := by omega
                  refine st_aload_n dX7_matrix_93 rfl ?_
                  refine st_callVi [] [] dX7_matrix_94 vl_X7_139 rfl rfl rfl rfl (Nat.le_of_ble_eq_true rfl) (by decide) (m_here (M := (rwV (rwV M 0 (rwp tp ln p 11 ((sk tp ln 0) + 1)).2.1 (vlp tp ln ((sk tp ln 0) + 1))) 11 (rwp tp ln p (((rwp tp ln p 11 ((sk tp ln 0) + 1)).2.1 + 1) / 2) ((rwp tp ln p 11 ((sk tp ln 0) + 1)).2.2 + 1)).2.1 (vlp tp ln ((rwp tp ln p 11 ((sk tp ln 0) + 1)).2.2 + 1)))) (tp := tp) (ln := ln) (q := q2) ht2 hl2 hn7 (by omega)) (fun zh2 Mh2 qh2 => ?_)
                  obtain ⟨rfl, h0h2⟩ := qh2
                  subst Mh2
                  rw [hsq2]
                  refine st_if_eq 105 dX7_matrix_97 (by decide) (fun h97 => ?_) (fun h97 => ?_)
                  · skip
                    have h97 := (lr_z hT).mp h97
                    refine st_aload_n dX7_matrix_105 rfl ?_
                    refine st_getr (i' := 0) dX7_matrix_106 fl_X7_7 rfl rfl rfl (fun _ => by decide) ?_
                    refine st_iconst dX7_matrix_109 (by decide) ?_
                    refine st_iload_n dX7_matrix_110 rfl ?_
                    refine st_iast (j := 0) dX7_matrix_111 rfl rfl rfl rfl (by decide) ?_
                    refine st_aload_n dX7_matrix_112 rfl ?_
                    refine st_getr (i' := 0) dX7_matrix_113 fl_X7_7 rfl rfl rfl (fun _ => by decide) ?_
                    refine st_iconst dX7_matrix_116 (by decide) ?_
                    refine st_iload_n dX7_matrix_117 rfl ?_
                    refine st_iast (j := 1) dX7_matrix_118 rfl rfl rfl rfl (by decide) ?_
                    refine st_iconst dX7_matrix_119 (by decide) ?_
                    refine st_istore (ls' := [some (vr 22 0), some (vi (kb (lr tp ln (sk tp ln 0) (-1)))), some (vi (((rwp tp ln p 11 ((sk tp ln 0) + 1)).2.1 : Nat) : Int)), some (vi (((((rwp tp ln p 11 ((sk tp ln 0) + 1)).2.1 : Nat) : Int) + 1) / 2)), some (vi (((rwp tp ln p (((rwp tp ln p 11 ((sk tp ln 0) + 1)).2.1 + 1) / 2) ((rwp tp ln p 11 ((sk tp ln 0) + 1)).2.2 + 1)).2.1 : Nat) : Int)), some (vi 0)]) dX7_matrix_120 (by decide) rfl rfl ?_
                    refine fAt_ls (ls' := [some (vr 22 0), some (vi (kb (lr tp ln (sk tp ln 0) (-1)))), some (vi (((rwp tp ln p 11 ((sk tp ln 0) + 1)).2.1 : Nat) : Int)), some (vi (((((rwp tp ln p 11 ((sk tp ln 0) + 1)).2.1 + 1) / 2) : Nat) : Int)), some (vi (((rwp tp ln p (((rwp tp ln p 11 ((sk tp ln 0) + 1)).2.1 + 1) / 2) ((rwp tp ln p 11 ((sk tp ln 0) + 1)).2.2 + 1)).2.1 : Nat) : Int)), some (vi ((0 : Nat) : Int))]) rfl ?_
                    refine fAt_m (mx1_0 _ (rwp tp ln p 11 ((sk tp ln 0) + 1)).2.1).symm ?_
                    refine fAt_q (fun r M' h => ?_) (mtx_1 (r := (rwp tp ln p (((rwp tp ln p 11 ((sk tp ln 0) + 1)).2.1 + 1) / 2) ((rwp tp ln p 11 ((sk tp ln 0) + 1)).2.2 + 1)).2.1) 11 0 (by omega))
                    obtain ⟨z, e, h1, h2⟩ := h
                    refine ⟨z, e, Or.inr ⟨(by rw [mtF_e]; rw [if_neg (by omega), if_neg (by rw [r1]; decide), if_neg (by omega), if_pos hc, if_neg (by rw [s1]; decide), if_neg (fun q => q s2), if_neg (by omega)]), h1, ?_⟩⟩
                    rw [h2]
                    refine mMx_S (r := (rwp tp ln p (((rwp tp ln p 11 ((sk tp ln 0) + 1)).2.1 + 1) / 2) ((rwp tp ln p 11 ((sk tp ln 0) + 1)).2.2 + 1)).2.1) (by rw [if_pos hc]; exact s2) (nuS_t nuS_w nuS_w) (fun j hj => ?_) (fun i hi => ?_)
                    · have hj : j < (rwp tp ln p 11 ((sk tp ln 0) + 1)).2.1 := hj
                      unfold rwV
                      rw [if_neg (by omega), if_pos ⟨rfl, rfl, by omega, by omega⟩, Nat.sub_zero]
                    · unfold rwV
                      rw [if_pos ⟨rfl, rfl, by omega, by omega⟩, Nat.add_sub_cancel_left]
                  · skip
                    have h97 : (rwp tp ln p (((rwp tp ln p 11 ((sk tp ln 0) + 1)).2.1 + 1) / 2) ((rwp tp ln p 11 ((sk tp ln 0) + 1)).2.2 + 1)).2.2 < ln := Classical.byContradiction fun q => h97 ((lr_z hT).mpr q)
                    refine st_aload_n dX7_matrix_100 rfl ?_
                    refine st_callVi [] [] dX7_matrix_101 vl_X7_159 rfl rfl rfl rfl (Nat.le_of_ble_eq_true rfl) (by decide) (m_fault (M := (rwV (rwV M 0 (rwp tp ln p 11 ((sk tp ln 0) + 1)).2.1 (vlp tp ln ((sk tp ln 0) + 1))) 11 (rwp tp ln p (((rwp tp ln p 11 ((sk tp ln 0) + 1)).2.1 + 1) / 2) ((rwp tp ln p 11 ((sk tp ln 0) + 1)).2.2 + 1)).2.1 (vlp tp ln ((rwp tp ln p 11 ((sk tp ln 0) + 1)).2.2 + 1)))) (tp := tp) (ln := ln) ht2 hl2 hn7 (q := (rwp tp ln p (((rwp tp ln p 11 ((sk tp ln 0) + 1)).2.1 + 1) / 2) ((rwp tp ln p 11 ((sk tp ln 0) + 1)).2.2 + 1)).2.2) (by omega) hT) (fun zf Mf qf => ?_)
                    obtain ⟨rfl, h0f⟩ := qf
                    subst Mf
                    rw [hss2]
                    refine st_ireturn dX7_matrix_104 rfl ⟨_, rfl, Or.inl ⟨(rwp tp ln p (((rwp tp ln p 11 ((sk tp ln 0) + 1)).2.1 + 1) / 2) ((rwp tp ln p 11 ((sk tp ln 0) + 1)).2.2 + 1)).2.2, (by rw [mtF_e]; rw [if_neg (by omega), if_neg (by rw [r1]; decide), if_neg (by omega), if_pos hc, if_neg (by rw [s1]; decide), if_neg (fun q => q s2), if_pos (by omega)]), rfl, mS_f (nuS_t nuS_w nuS_w)⟩⟩
                · skip
                  have s2 : (rwp tp ln p (((rwp tp ln p 11 ((sk tp ln 0) + 1)).2.1 + 1) / 2) ((rwp tp ln p 11 ((sk tp ln 0) + 1)).2.2 + 1)).2.1 ≠ (((rwp tp ln p 11 ((sk tp ln 0) + 1)).2.1 + 1) / 2) := by omega
                  refine st_aload_n dX7_matrix_88 rfl ?_
                  refine st_callVi [] [] dX7_matrix_89 vl_X7_159 rfl rfl rfl rfl (Nat.le_of_ble_eq_true rfl) (by decide) (m_fault (M := (rwV (rwV M 0 (rwp tp ln p 11 ((sk tp ln 0) + 1)).2.1 (vlp tp ln ((sk tp ln 0) + 1))) 11 (rwp tp ln p (((rwp tp ln p 11 ((sk tp ln 0) + 1)).2.1 + 1) / 2) ((rwp tp ln p 11 ((sk tp ln 0) + 1)).2.2 + 1)).2.1 (vlp tp ln ((rwp tp ln p 11 ((sk tp ln 0) + 1)).2.2 + 1)))) (tp := tp) (ln := ln) ht2 hl2 hn7 (q := q2) hq2 hT) (fun zf Mf qf => ?_)
                  obtain ⟨rfl, h0f⟩ := qf
                  subst Mf
                  rw [hsq2]
                  refine st_ireturn dX7_matrix_92 rfl ⟨_, rfl, Or.inl ⟨(rwp tp ln p (((rwp tp ln p 11 ((sk tp ln 0) + 1)).2.1 + 1) / 2) ((rwp tp ln p 11 ((sk tp ln 0) + 1)).2.2 + 1)).2.2, (by rw [mtF_e]; rw [if_neg (by omega), if_neg (by rw [r1]; decide), if_neg (by omega), if_pos hc, if_neg (by rw [s1]; decide), if_pos s2]), rfl, mS_f (nuS_t nuS_w nuS_w)⟩⟩
          · skip
            subst Mh
            have hss : sk tp ln (rwp tp ln p 11 ((sk tp ln 0) + 1)).2.2 = (rwp tp ln p 11 ((sk tp ln 0) + 1)).2.2 := by rw [← hsq]; exact sk_sk hq'
            refine st_if_eq 93 dX7_matrix_70 (by decide) (fun h70 => ?_) (fun h70 => ?_)
            · skip
              refine st_aload_n dX7_matrix_93 rfl ?_
              refine st_callVi [] [] dX7_matrix_94 vl_X7_139 rfl rfl rfl rfl (Nat.le_of_ble_eq_true rfl) (by decide) (m_here (M := (rwV M 0 (rwp tp ln p 11 ((sk tp ln 0) + 1)).2.1 (vlp tp ln ((sk tp ln 0) + 1)))) (tp := tp) (ln := ln) (q := (rwp tp ln p 11 ((sk tp ln 0) + 1)).2.2) ht1 hl1 hn7 (by omega)) (fun zh2 Mh2 qh2 => ?_)
              obtain ⟨rfl, h0h2⟩ := qh2
              subst Mh2
              rw [hss]
              refine st_if_eq 105 dX7_matrix_97 (by decide) (fun h97 => ?_) (fun h97 => ?_)
              · skip
                have h97 := (lr_z hT).mp h97
                refine st_aload_n dX7_matrix_105 rfl ?_
                refine st_getr (i' := 0) dX7_matrix_106 fl_X7_7 rfl rfl rfl (fun _ => by decide) ?_
                refine st_iconst dX7_matrix_109 (by decide) ?_
                refine st_iload_n dX7_matrix_110 rfl ?_
                refine st_iast (j := 0) dX7_matrix_111 rfl rfl rfl rfl (by decide) ?_
                refine st_aload_n dX7_matrix_112 rfl ?_
                refine st_getr (i' := 0) dX7_matrix_113 fl_X7_7 rfl rfl rfl (fun _ => by decide) ?_
                refine st_iconst dX7_matrix_116 (by decide) ?_
                refine st_iload_n dX7_matrix_117 rfl ?_
                refine st_iast (j := 1) dX7_matrix_118 rfl rfl rfl rfl (by decide) ?_
                refine st_iconst dX7_matrix_119 (by decide) ?_
                refine st_istore (ls' := [some (vr 22 0), some (vi (kb (lr tp ln (sk tp ln 0) (-1)))), some (vi (((rwp tp ln p 11 ((sk tp ln 0) + 1)).2.1 : Nat) : Int)), some (vi (((((rwp tp ln p 11 ((sk tp ln 0) + 1)).2.1 : Nat) : Int) + 1) / 2)), some (vi 0), some (vi 0)]) dX7_matrix_120 (by decide) rfl rfl ?_
                refine fAt_ls (ls' := [some (vr 22 0), some (vi (kb (lr tp ln (sk tp ln 0) (-1)))), some (vi (((rwp tp ln p 11 ((sk tp ln 0) + 1)).2.1 : Nat) : Int)), some (vi (((((rwp tp ln p 11 ((sk tp ln 0) + 1)).2.1 + 1) / 2) : Nat) : Int)), some (vi ((0 : Nat) : Int)), some (vi ((0 : Nat) : Int))]) rfl ?_
                refine fAt_m (mx1_0 _ (rwp tp ln p 11 ((sk tp ln 0) + 1)).2.1).symm ?_
                refine fAt_q (fun r M' h => ?_) (mtx_1 (r := 0) 11 0 (by omega))
                obtain ⟨z, e, h1, h2⟩ := h
                refine ⟨z, e, Or.inr ⟨(by rw [mtF_e]; rw [if_neg (by omega), if_neg (by rw [r1]; decide), if_neg (by omega), if_neg hc, if_neg (by omega)]), h1, ?_⟩⟩
                rw [h2]
                exact mMx_S (r := 0) (by rw [if_neg hc]) nuS_w (fun j hj => by unfold rwV; rw [if_pos ⟨rfl, rfl, by omega, by show j < 0 + _; rw [Nat.zero_add]; exact hj⟩, Nat.sub_zero]) (fun i hi => absurd hi (by omega))
              · skip
                have h97 : (rwp tp ln p 11 ((sk tp ln 0) + 1)).2.2 < ln := Classical.byContradiction fun q => h97 ((lr_z hT).mpr q)
                refine st_aload_n dX7_matrix_100 rfl ?_
                refine st_callVi [] [] dX7_matrix_101 vl_X7_159 rfl rfl rfl rfl (Nat.le_of_ble_eq_true rfl) (by decide) (m_fault (M := (rwV M 0 (rwp tp ln p 11 ((sk tp ln 0) + 1)).2.1 (vlp tp ln ((sk tp ln 0) + 1)))) (tp := tp) (ln := ln) ht1 hl1 hn7 (q := (rwp tp ln p 11 ((sk tp ln 0) + 1)).2.2) (by omega) hT) (fun zf Mf qf => ?_)
                obtain ⟨rfl, h0f⟩ := qf
                subst Mf
                rw [hss]
                refine st_ireturn dX7_matrix_104 rfl ⟨_, rfl, Or.inl ⟨(rwp tp ln p 11 ((sk tp ln 0) + 1)).2.2, (by rw [mtF_e]; rw [if_neg (by omega), if_neg (by rw [r1]; decide), if_neg (by omega), if_neg hc, if_pos (by omega)]), rfl, mS_f nuS_w⟩⟩
            · skip
              exact absurd rfl h70
        · skip
          have r2 : (rwp tp ln p 11 ((sk tp ln 0) + 1)).2.1 % 2 = 0 := by omega
          refine st_aload_n dX7_matrix_50 rfl ?_
          refine st_callVi [] [] dX7_matrix_51 vl_X7_159 rfl rfl rfl rfl (Nat.le_of_ble_eq_true rfl) (by decide) (m_fault (M := (rwV M 0 (rwp tp ln p 11 ((sk tp ln 0) + 1)).2.1 (vlp tp ln ((sk tp ln 0) + 1)))) (tp := tp) (ln := ln) ht1 hl1 hn7 (q := q') hq' hT) (fun zf Mf qf => ?_)
          obtain ⟨rfl, h0f⟩ := qf
          subst Mf
          rw [hsq]
          refine st_ireturn dX7_matrix_54 rfl ⟨_, rfl, Or.inl ⟨(rwp tp ln p 11 ((sk tp ln 0) + 1)).2.2, (by rw [mtF_e]; rw [if_neg (by omega), if_neg (by rw [r1]; decide), if_pos r2]), rfl, mS_f nuS_w⟩⟩
  · skip
    have h35 : (kb (lr tp ln (sk tp ln 0) (-1))) < 0 := by omega
    refine st_aload_n dX7_matrix_17 rfl ?_
    refine st_callVi [] [] dX7_matrix_18 vl_X7_159 rfl rfl rfl rfl (Nat.le_of_ble_eq_true rfl) (by decide) (m_fault (M := M) (tp := tp) (ln := ln) ht hl hn7 (q := (sk tp ln 0)) (by omega) hT) (fun zf Mf qf => ?_)
    obtain ⟨rfl, h0f⟩ := qf
    subst Mf
    rw [sk_sk (Nat.zero_le _)]
    refine st_ireturn dX7_matrix_21 rfl ⟨_, rfl, Or.inl ⟨(sk tp ln 0), (by rw [mtF_e]; rw [if_pos h35]), rfl, mS_f (nuS_r M)⟩⟩
