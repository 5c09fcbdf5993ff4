/-! ===== the law: its beginning ===== -/
theorem in_X0 : Cond.instantiable RX0 5 ∈ ftb := ftb_in 79 (by decide +kernel) rfl
theorem in_X1 : Cond.instantiable RX1 4 ∈ ftb := ftb_in 170 (by decide +kernel) rfl
theorem in_X2 : Cond.instantiable RX2 6 ∈ ftb := ftb_in 141 (by decide +kernel) rfl
theorem in_X3 : Cond.instantiable RX3 5 ∈ ftb := ftb_in 85 (by decide +kernel) rfl
theorem in_X4 : Cond.instantiable RX4 3 ∈ ftb := ftb_in 224 (by decide +kernel) rfl
theorem in_X5 : Cond.instantiable RX5 5 ∈ ftb := ftb_in 195 (by decide +kernel) rfl
theorem in_X6 : Cond.instantiable RX6 11 ∈ ftb := ftb_in 71 (by decide +kernel) rfl
theorem in_X7 : Cond.instantiable RX7 19 ∈ ftb := ftb_in 684 (by decide +kernel) rfl
theorem tb_a2 : Cond.arrayOver (.object "LeanDiagonals$Setting") ∈ lw_tbl := List.mem_of_getElem? (i := 120) (by decide +kernel)
theorem tb_a3 : Cond.arrayOver (.object "LeanDiagonals$Sheet") ∈ lw_tbl := List.mem_of_getElem? (i := 223) (by decide +kernel)
theorem tb_a4 : Cond.arrayOver (.array .int) ∈ lw_tbl := List.mem_of_getElem? (i := 176) (by decide +kernel)
theorem tb_n0 : Cond.methodLinkNest RX0 20 yX3_init "LeanDiagonals" ∈ lw_tbl := List.mem_of_getElem? (i := 86) (by decide +kernel)
theorem tb_n1 : Cond.methodLinkNest RX6 25 yX2_init "LeanDiagonals" ∈ lw_tbl := List.mem_of_getElem? (i := 142) (by decide +kernel)
theorem tb_n2 : Cond.methodLinkNest RX2 17 yX3_init "LeanDiagonals" ∈ lw_tbl := List.mem_of_getElem? (i := 147) (by decide +kernel)
theorem tb_n3 : Cond.methodLinkNest RX6 39 yX3_init "LeanDiagonals" ∈ lw_tbl := List.mem_of_getElem? (i := 193) (by decide +kernel)
theorem tb_n4 : Cond.methodLinkNest RX6 46 yX5_init "LeanDiagonals" ∈ lw_tbl := List.mem_of_getElem? (i := 196) (by decide +kernel)
theorem tb_n5 : Cond.methodLinkNest RX5 28 yX3_init "LeanDiagonals" ∈ lw_tbl := List.mem_of_getElem? (i := 201) (by decide +kernel)
theorem tb_n6 : Cond.methodLinkNest RX6 67 yX4_init "LeanDiagonals" ∈ lw_tbl := List.mem_of_getElem? (i := 225) (by decide +kernel)
theorem tb_nw : Cond.methodLinkNest "LeanDiagonals$Wipes" 50 ⟨"LeanDiagonals", "power", "(JI)J"⟩ "LeanDiagonals" ∈ lw_tbl := List.mem_of_getElem? (i := 593) (by decide +kernel)
theorem cnst_in {w : Cond} (h : w ∈ cnst) : w ∈ lw_tbl := by
  simp only [cnst, List.mem_cons, List.not_mem_nil, or_false] at h
  rcases h with rfl | rfl | rfl | rfl | rfl | rfl | rfl
  · exact tb_n0
  · exact tb_n1
  · exact tb_n2
  · exact tb_n3
  · exact tb_n4
  · exact tb_n5
  · exact tb_n6
abbrev Y_law : fY := (x, code, 4, ret, 9, 340)
set_option maxHeartbeats 4000000 in
set_option maxRecDepth 100000 in
theorem law_c {l : Launch} {D : va_G} {b : Nat} {ca : Nat → ClassId} {sb L : Nat} {xs : Nat → Int32} (hL : L ≤ 3072) : cAt (gF l D b ca) Y_law b room_1 (fun below _ s => lw_Z below #[Value.ref sb] s) (fun p s m args meth c => args = #[Value.ref sb] ∧ b = s.heap.size ∧ fNw s ∧ lw_At p s m meth c sb L xs) 0 [(0, .ref sb)] [] 0 0 0 (fun _ => .inr (0, [])) := by
  refine cn_new dL_law_0 nk_L_7 (by decide) (by decide) ?_
  refine cn_dup dL_law_3 ?_
  refine cn_call dL_law_4 il_L_9 (c_X6_init (by omega) cu_eq) ⟨by decide, by decide⟩ ⟨by decide, by decide⟩ (Nat.le_of_ble_eq_true rfl) ?_
  refine cn_astore (ls' := [(1, .ref (b + 0)), (0, .ref sb)]) dL_law_7 (by decide) rfl ?_
  refine cn_new dL_law_8 nk_L_10 (by decide) (by decide) ?_
  refine cn_dup dL_law_11 ?_
  refine cn_call dL_law_12 il_L_12 (c_X7_init (by omega) cu_eq) ⟨by decide, by decide⟩ ⟨by decide, by decide⟩ (Nat.le_of_ble_eq_true rfl) ?_
  refine cn_astore (ls' := [(2, .ref (b + (0 + 1 + 99))), (1, .ref (b + 0)), (0, .ref sb)]) dL_law_15 (by decide) rfl ?_
  refine cn_iconst 0 dL_law_16 (by decide) ?_
  refine cn_istore (ls' := [(3, .int 0), (2, .ref (b + (0 + 1 + 99))), (1, .ref (b + 0)), (0, .ref sb)]) dL_law_17 (by decide) rfl ?_
  intro p e s m args below meth c H locs ar hE hX hz hP hS hl
  obtain ⟨rfl, hb, hN, hA⟩ := hX
  subst hb
  have hP2 : va_P D fcls (kW s.heap.size 115 (csF (gF l D s.heap.size ca) s.heap.size)) H := hP
  exact law_loop (g := gF l D s.heap.size ca) (sb := sb) (xs := xs) hL L 0 M0 (by omega) (by omega) Rel_0 trivial fRM_0 p e s m below meth c H locs ar ⟨hA, hL, hE.2.2.2.2.2.2.2.2.1.1, hN, gF_inj, fun k i _ => Nat.le_add_right _ _⟩ (fws_0 hP2) hS hl
set_option maxHeartbeats 4000000 in
set_option maxRecDepth 100000 in
theorem whole_start {p : Program} {e : Env} {s : State} {m : MethodId} {below : List Frame} {meth : Method} {c : Code} (l : Launch) (hflags : l.flags = flags0) {b L : Nat} {xs : Nat → Int32} (hL : L ≤ 3072) (C0 : lw_At p s m meth c b L xs) : W p l e room_1 s m #[Value.ref b] below meth c s.heap [] 0 0 (lw_Z below #[Value.ref b] s) (entryFrame m ([Value.ref b] : List Value).toArray 4) := by
  obtain ⟨hx, hb, hr, hml, hown, hts, hX, hbl, hlocks, hgv⟩ := id C0
  have htf : ∀ w ∈ ftb, w.before #[Value.ref b] s = true := fun w hw => hts w (ftb_tbl hw)
  obtain ⟨c0, i0, k0⟩ := u_known (C := RX0) (T := TX0) (N := 5) (n := 5) htf ic_X0 (htf _ in_X0)
  obtain ⟨c1, i1, k1⟩ := u_known (C := RX1) (T := TX1) (N := 4) (n := 4) htf ic_X1 (htf _ in_X1)
  obtain ⟨c2, i2, k2⟩ := u_known (C := RX2) (T := TX2) (N := 6) (n := 6) htf ic_X2 (htf _ in_X2)
  obtain ⟨c3, i3, k3⟩ := u_known (C := RX3) (T := TX3) (N := 5) (n := 5) htf ic_X3 (htf _ in_X3)
  obtain ⟨c4, i4, k4⟩ := u_known (C := RX4) (T := TX4) (N := 3) (n := 3) htf ic_X4 (htf _ in_X4)
  obtain ⟨c5, i5, k5⟩ := u_known (C := RX5) (T := TX5) (N := 5) (n := 5) htf ic_X5 (htf _ in_X5)
  obtain ⟨c6, i6, k6⟩ := u_known (C := RX6) (T := TX6) (N := 11) (n := 11) htf ic_X6 (htf _ in_X6)
  obtain ⟨c7, i7, k7⟩ := u_known (C := RX7) (T := TX7) (N := 19) (n := 19) htf ic_X7 (htf _ in_X7)
  obtain ⟨D, hKc⟩ : ∃ (D : va_G), ∀ (k : Nat) (q : vw_C), fcls[k]? = some q → u_Kn s q.1 q.2.1 q.2.2 (D.1 k) (D.2 k) := by
    refine ⟨(fun k => if k = 0 then c0 else if k = 1 then c1 else if k = 2 then c2 else if k = 3 then c3 else if k = 4 then c4 else if k = 5 then c5 else if k = 6 then c6 else c7, fun k => if k = 0 then i0 else if k = 1 then i1 else if k = 2 then i2 else if k = 3 then i3 else if k = 4 then i4 else if k = 5 then i5 else if k = 6 then i6 else i7), ?_⟩
    intro k q hq
    match k, hq with
    | 0, hq => cases hq; exact k0
    | 1, hq => cases hq; exact k1
    | 2, hq => cases hq; exact k2
    | 3, hq => cases hq; exact k3
    | 4, hq => cases hq; exact k4
    | 5, hq => cases hq; exact k5
    | 6, hq => cases hq; exact k6
    | 7, hq => cases hq; exact k7
    | k + 8, hq => simp [fcls] at hq
  have hA2 : va_AO "LeanDiagonals$Setting" s := va_AO.of (hts _ tb_a2)
  have hA3 : va_AO "LeanDiagonals$Sheet" s := va_AO.of (hts _ tb_a3)
  have hA4 : ko_AO s := ko_AO.of (hts _ tb_a4)
  obtain ⟨a0, kA0, cm0, f0, g0, h0⟩ := Cond.arrayClass_spec (htf _ ac_i)
  obtain ⟨a1, kA1, cm1, f1, g1, h1⟩ := Cond.arrayClass_spec (htf _ ac_l)
  obtain ⟨cm2, a2, kA2, f2, -, g2, h2, n2⟩ := Cond.arrayOver_spec hA2
  obtain ⟨cm3, a3, kA3, f3, -, g3, h3, n3⟩ := Cond.arrayOver_spec hA3
  obtain ⟨cm4, a4, kA4, f4, g4, h4, n4⟩ := ko_AO.spec hA4
  obtain ⟨ca, hca⟩ : ∃ ca : Nat → ClassId, ca 0 = a0 ∧ ca 1 = a1 ∧ ca 2 = a2 ∧ ca 3 = a3 ∧ ca 4 = a4 := ⟨fun k => if k = 0 then a0 else if k = 1 then a1 else if k = 2 then a2 else if k = 3 then a3 else a4, rfl, rfl, rfl, rfl, rfl⟩
  have hK : va_K D fcls (fty (gF l D s.heap.size ca)) s := by
    refine ⟨hKc, fun k q hq => ?_⟩
    match k, hq with
    | 0, hq => cases hq; show ArrOfT s (ca 0) .int ∧ va_RA s (ca 0) .int; rw [hca.1]; exact ⟨fun n z => ⟨fun k h => (by cases h), kA0, g0, cm0, h0⟩, f0⟩
    | 1, hq => cases hq; show ArrOfT s (ca 1) .long ∧ va_RA s (ca 1) .long; rw [hca.2.1]; exact ⟨fun n z => ⟨fun k h => (by cases h), kA1, g1, cm1, h1⟩, f1⟩
    | 2, hq => cases hq; show ArrOfT s (ca 2) (.object "LeanDiagonals$Setting") ∧ va_RA s (ca 2) (.object "LeanDiagonals$Setting"); rw [hca.2.2.1]; exact ⟨fun n z => ⟨fun k h => (by cases h), kA2, g2, cm2, h2⟩, kA2, cm2, g2, h2, f2, n2⟩
    | 3, hq => cases hq; show ArrOfT s (ca 3) (.object "LeanDiagonals$Sheet") ∧ va_RA s (ca 3) (.object "LeanDiagonals$Sheet"); rw [hca.2.2.2.1]; exact ⟨fun n z => ⟨fun k h => (by cases h), kA3, g3, cm3, h3⟩, kA3, cm3, g3, h3, f3, n3⟩
    | 4, hq => cases hq; show ArrOfT s (ca 4) (.array .int) ∧ va_RA s (ca 4) (.array .int); rw [hca.2.2.2.2]; exact ⟨fun n z => ⟨fun k h => (by cases h), kA4, g4, cm4, h4⟩, n4⟩
    | k + 5, hq => simp [fty] at hq
  have hC : cNw s := fun w hw => by
    have h := hts w (cnst_in hw)
    obtain ⟨a, i, x, rfl⟩ := cnst_is hw
    exact va_Nw.of rfl h
  have hN : fNw s := fun w hw => by
    simp only [fnst, List.mem_singleton] at hw
    subst hw
    exact va_Nw.of rfl (hts _ tb_nw)
  have hlv := lv_entry [Value.ref b] (n := 4) (Nat.le_of_ble_eq_true rfl)
  rw [lg_entry_eq]
  exact law_c (l := l) (D := D) (b := s.heap.size) (ca := ca) (sb := b) (L := L) (xs := xs) hL p e s m _ below meth c s.heap [] _ ⟨hx, hb, hr, hml, hown, htf, hlocks, fun h => absurd h (by decide), ⟨hK, hA2, hA3, hA4, hC⟩, Nat.le_refl _⟩ ⟨rfl, rfl, hN, C0⟩ rfl (fun k q hk => by simp [kW] at hk) va_S.rf hlv
