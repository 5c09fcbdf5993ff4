/-! ===== constructors: their words ===== -/
abbrev Y_X0_init : fY := (yX0_init, cX0_init, 2, (Option.none : Option Jvm.ClassFile.FieldType), 2, 40)
abbrev Y_X1_init : fY := (yX1_init, cX1_init, 1, (Option.none : Option Jvm.ClassFile.FieldType), 1, 20)
abbrev Y_X2_init : fY := (yX2_init, cX2_init, 1, (Option.none : Option Jvm.ClassFile.FieldType), 2, 40)
abbrev Y_X3_init : fY := (yX3_init, cX3_init, 1, (Option.none : Option Jvm.ClassFile.FieldType), 1, 20)
abbrev Y_X4_init : fY := (yX4_init, cX4_init, 1, (Option.none : Option Jvm.ClassFile.FieldType), 1, 20)
abbrev Y_X5_init : fY := (yX5_init, cX5_init, 1, (Option.none : Option Jvm.ClassFile.FieldType), 2, 40)
abbrev Y_X6_init : fY := (yX6_init, cX6_init, 2, (Option.none : Option Jvm.ClassFile.FieldType), 3, 61)
abbrev Y_X7_init : fY := (yX7_init, cX7_init, 2, (Option.none : Option Jvm.ClassFile.FieldType), 1, 20)
theorem ob_i : Cond.instanceMethod Lib.objectInit ∈ ftb := ftb_in 76 (by decide +kernel) rfl
theorem ob_c : Cond.code Lib.objectInit ⟨#[0xb1]⟩ 1 none ∈ ftb := ftb_in 77 (by decide +kernel) rfl
theorem ac_i : Cond.arrayClass .int ∈ ftb := ftb_in 119 (by decide +kernel) rfl
theorem ac_l : Cond.arrayClass .long ∈ ftb := ftb_in 221 (by decide +kernel) rfl
theorem ob_X6 : Cond.methodLink RX6 3 Lib.objectInit ∈ ftb := ftb_in 75 (by decide +kernel) rfl
theorem nk_X6_9 : nLk RX6 9 0 5 [.int 0, .int 0, .null, .int 0, .null] := ⟨RX0, TX0, tyX0, rfl, ic_X0, tyX0_ok, ftb_in 78 (by decide +kernel) rfl, ftb_in 79 (by decide +kernel) rfl, ftb_in 60 (by decide +kernel) rfl, fun j hj => by rcases (show j = 0 ∨ j = 1 ∨ j = 2 ∨ j = 3 ∨ j = 4 by omega) with rfl | rfl | rfl | rfl | rfl <;> rfl⟩
theorem il_X6_11 : iLk RX6 11 Y_X0_init := ⟨ftb_in 80 (by decide +kernel) rfl, ftb_in 81 (by decide +kernel) rfl, ftb_in 60 (by decide +kernel) rfl, ftb_in 82 (by decide +kernel) rfl, rfl, rfl, by decide +kernel, by decide +kernel, by decide +kernel⟩
theorem nk_X6_23 : nLk RX6 23 2 6 [.int 0, .null, .null, .int 0, .int 0, .int 0] := ⟨RX2, TX2, tyX2, rfl, ic_X2, tyX2_ok, ftb_in 140 (by decide +kernel) rfl, ftb_in 141 (by decide +kernel) rfl, ftb_in 62 (by decide +kernel) rfl, fun j hj => by rcases (show j = 0 ∨ j = 1 ∨ j = 2 ∨ j = 3 ∨ j = 4 ∨ j = 5 by omega) with rfl | rfl | rfl | rfl | rfl | rfl <;> rfl⟩
theorem il_X6_25 : iNk RX6 25 Y_X2_init := ⟨by decide +kernel, ftb_in 143 (by decide +kernel) rfl, ftb_in 62 (by decide +kernel) rfl, ftb_in 144 (by decide +kernel) rfl, rfl, rfl, by decide +kernel, by decide +kernel, by decide +kernel⟩
theorem nk_X6_30 : nLk RX6 30 1 4 [.null, .null, .null, .int 0] := ⟨RX1, TX1, tyX1, rfl, ic_X1, tyX1_ok, ftb_in 169 (by decide +kernel) rfl, ftb_in 170 (by decide +kernel) rfl, ftb_in 63 (by decide +kernel) rfl, fun j hj => by rcases (show j = 0 ∨ j = 1 ∨ j = 2 ∨ j = 3 by omega) with rfl | rfl | rfl | rfl <;> rfl⟩
theorem il_X6_32 : iLk RX6 32 Y_X1_init := ⟨ftb_in 171 (by decide +kernel) rfl, ftb_in 172 (by decide +kernel) rfl, ftb_in 63 (by decide +kernel) rfl, ftb_in 173 (by decide +kernel) rfl, rfl, rfl, by decide +kernel, by decide +kernel, by decide +kernel⟩
theorem nk_X6_37 : nLk RX6 37 3 5 [.int 0, .int 0, .int 0, .null, .null] := ⟨RX3, TX3, tyX3, rfl, ic_X3, tyX3_ok, ftb_in 192 (by decide +kernel) rfl, ftb_in 85 (by decide +kernel) rfl, ftb_in 61 (by decide +kernel) rfl, fun j hj => by rcases (show j = 0 ∨ j = 1 ∨ j = 2 ∨ j = 3 ∨ j = 4 by omega) with rfl | rfl | rfl | rfl | rfl <;> rfl⟩
theorem il_X6_39 : iNk RX6 39 Y_X3_init := ⟨by decide +kernel, ftb_in 87 (by decide +kernel) rfl, ftb_in 61 (by decide +kernel) rfl, ftb_in 88 (by decide +kernel) rfl, rfl, rfl, by decide +kernel, by decide +kernel, by decide +kernel⟩
theorem nk_X6_44 : nLk RX6 44 5 5 [.null, .null, .int 0, .int 0, .null] := ⟨RX5, TX5, tyX5, rfl, ic_X5, tyX5_ok, ftb_in 194 (by decide +kernel) rfl, ftb_in 195 (by decide +kernel) rfl, ftb_in 64 (by decide +kernel) rfl, fun j hj => by rcases (show j = 0 ∨ j = 1 ∨ j = 2 ∨ j = 3 ∨ j = 4 by omega) with rfl | rfl | rfl | rfl | rfl <;> rfl⟩
theorem il_X6_46 : iNk RX6 46 Y_X5_init := ⟨by decide +kernel, ftb_in 197 (by decide +kernel) rfl, ftb_in 64 (by decide +kernel) rfl, ftb_in 198 (by decide +kernel) rfl, rfl, rfl, by decide +kernel, by decide +kernel, by decide +kernel⟩
theorem ak_X6_61 : Cond.classLink RX6 61 "LeanDiagonals$Sheet" ∈ ftb := ftb_in 222 (by decide +kernel) rfl
theorem nk_X6_61 : nLk RX6 61 4 3 [.int 0, .int 0, .null] := ⟨RX4, TX4, tyX4, rfl, ic_X4, tyX4_ok, ftb_in 222 (by decide +kernel) rfl, ftb_in 224 (by decide +kernel) rfl, ftb_in 65 (by decide +kernel) rfl, fun j hj => by rcases (show j = 0 ∨ j = 1 ∨ j = 2 by omega) with rfl | rfl | rfl <;> rfl⟩
theorem il_X6_67 : iNk RX6 67 Y_X4_init := ⟨by decide +kernel, ftb_in 226 (by decide +kernel) rfl, ftb_in 65 (by decide +kernel) rfl, ftb_in 227 (by decide +kernel) rfl, rfl, rfl, by decide +kernel, by decide +kernel, by decide +kernel⟩
theorem ob_X7 : Cond.methodLink RX7 1 Lib.objectInit ∈ ftb := ftb_in 688 (by decide +kernel) rfl
theorem ob_X0 : Cond.methodLink RX0 3 Lib.objectInit ∈ ftb := ftb_in 83 (by decide +kernel) rfl
theorem nk_X0_18 : nLk RX0 18 3 5 [.int 0, .int 0, .int 0, .null, .null] := ⟨RX3, TX3, tyX3, rfl, ic_X3, tyX3_ok, ftb_in 84 (by decide +kernel) rfl, ftb_in 85 (by decide +kernel) rfl, ftb_in 61 (by decide +kernel) rfl, fun j hj => by rcases (show j = 0 ∨ j = 1 ∨ j = 2 ∨ j = 3 ∨ j = 4 by omega) with rfl | rfl | rfl | rfl | rfl <;> rfl⟩
theorem il_X0_20 : iNk RX0 20 Y_X3_init := ⟨by decide +kernel, ftb_in 87 (by decide +kernel) rfl, ftb_in 61 (by decide +kernel) rfl, ftb_in 88 (by decide +kernel) rfl, rfl, rfl, by decide +kernel, by decide +kernel, by decide +kernel⟩
theorem ak_X0_18 : Cond.classLink RX0 18 "LeanDiagonals$Setting" ∈ ftb := ftb_in 84 (by decide +kernel) rfl
theorem ob_X1 : Cond.methodLink RX1 3 Lib.objectInit ∈ ftb := ftb_in 174 (by decide +kernel) rfl
theorem mk_X1_9 : Cond.classLink RX1 9 ("[" ++ (FieldType.array FieldType.int).toString) ∈ ftb := ftb_in 175 (by decide +kernel) rfl
theorem ob_X2 : Cond.methodLink RX2 3 Lib.objectInit ∈ ftb := ftb_in 145 (by decide +kernel) rfl
theorem nk_X2_15 : nLk RX2 15 3 5 [.int 0, .int 0, .int 0, .null, .null] := ⟨RX3, TX3, tyX3, rfl, ic_X3, tyX3_ok, ftb_in 146 (by decide +kernel) rfl, ftb_in 85 (by decide +kernel) rfl, ftb_in 61 (by decide +kernel) rfl, fun j hj => by rcases (show j = 0 ∨ j = 1 ∨ j = 2 ∨ j = 3 ∨ j = 4 by omega) with rfl | rfl | rfl | rfl | rfl <;> rfl⟩
theorem il_X2_17 : iNk RX2 17 Y_X3_init := ⟨by decide +kernel, ftb_in 87 (by decide +kernel) rfl, ftb_in 61 (by decide +kernel) rfl, ftb_in 88 (by decide +kernel) rfl, rfl, rfl, by decide +kernel, by decide +kernel, by decide +kernel⟩
theorem ob_X3 : Cond.methodLink RX3 3 Lib.objectInit ∈ ftb := ftb_in 89 (by decide +kernel) rfl
theorem ob_X4 : Cond.methodLink RX4 3 Lib.objectInit ∈ ftb := ftb_in 228 (by decide +kernel) rfl
theorem ob_X5 : Cond.methodLink RX5 3 Lib.objectInit ∈ ftb := ftb_in 199 (by decide +kernel) rfl
theorem nk_X5_26 : nLk RX5 26 3 5 [.int 0, .int 0, .int 0, .null, .null] := ⟨RX3, TX3, tyX3, rfl, ic_X3, tyX3_ok, ftb_in 200 (by decide +kernel) rfl, ftb_in 85 (by decide +kernel) rfl, ftb_in 61 (by decide +kernel) rfl, fun j hj => by rcases (show j = 0 ∨ j = 1 ∨ j = 2 ∨ j = 3 ∨ j = 4 by omega) with rfl | rfl | rfl | rfl | rfl <;> rfl⟩
theorem il_X5_28 : iNk RX5 28 Y_X3_init := ⟨by decide +kernel, ftb_in 87 (by decide +kernel) rfl, ftb_in 61 (by decide +kernel) rfl, ftb_in 88 (by decide +kernel) rfl, rfl, rfl, by decide +kernel, by decide +kernel, by decide +kernel⟩
theorem nk_L_7 : nLk "LeanDiagonalsLaw" 7 6 11 [.null, .null, .int 0, .null, .null, .null, .null, .null, .null, .null, .null] := ⟨RX6, TX6, tyX6, rfl, ic_X6, tyX6_ok, ftb_in 70 (by decide +kernel) rfl, ftb_in 71 (by decide +kernel) rfl, ftb_in 59 (by decide +kernel) rfl, fun j hj => by rcases (show j = 0 ∨ j = 1 ∨ j = 2 ∨ j = 3 ∨ j = 4 ∨ j = 5 ∨ j = 6 ∨ j = 7 ∨ j = 8 ∨ j = 9 ∨ j = 10 by omega) with rfl | rfl | rfl | rfl | rfl | rfl | rfl | rfl | rfl | rfl | rfl <;> rfl⟩
theorem il_L_9 : iLk "LeanDiagonalsLaw" 9 Y_X6_init := ⟨ftb_in 72 (by decide +kernel) rfl, ftb_in 73 (by decide +kernel) rfl, ftb_in 59 (by decide +kernel) rfl, ftb_in 74 (by decide +kernel) rfl, rfl, rfl, by decide +kernel, by decide +kernel, by decide +kernel⟩
theorem nk_L_10 : nLk "LeanDiagonalsLaw" 10 7 19 [.null, .null, .null, .int 0, .null, .int 0, .int 0, .null, .null, .int 0, .null, .null, .null, .null, .int 0, .null, .null, .null, .null] := ⟨RX7, TX7, tyX7, rfl, ic_X7, tyX7_ok, ftb_in 683 (by decide +kernel) rfl, ftb_in 684 (by decide +kernel) rfl, ftb_in 66 (by decide +kernel) rfl, fun j hj => by rcases (show j = 0 ∨ j = 1 ∨ j = 2 ∨ j = 3 ∨ j = 4 ∨ j = 5 ∨ j = 6 ∨ j = 7 ∨ j = 8 ∨ j = 9 ∨ j = 10 ∨ j = 11 ∨ j = 12 ∨ j = 13 ∨ j = 14 ∨ j = 15 ∨ j = 16 ∨ j = 17 ∨ j = 18 by omega) with rfl | rfl | rfl | rfl | rfl | rfl | rfl | rfl | rfl | rfl | rfl | rfl | rfl | rfl | rfl | rfl | rfl | rfl | rfl <;> rfl⟩
theorem il_L_12 : iLk "LeanDiagonalsLaw" 12 Y_X7_init := ⟨ftb_in 685 (by decide +kernel) rfl, ftb_in 686 (by decide +kernel) rfl, ftb_in 66 (by decide +kernel) rfl, ftb_in 687 (by decide +kernel) rfl, rfl, rfl, by decide +kernel, by decide +kernel, by decide +kernel⟩
theorem rk_X0_2 : rLk RX0 0 2 := fun q h => by rw [← Option.some.inj (show some (RX0, TX0, 5) = some q from h)]; exact ⟨rfl, rfl, _, tyX0_ok 2 (by decide), fun a => ⟨rfl, rfl⟩⟩
theorem rk_X0_4 : rLk RX0 0 4 := fun q h => by rw [← Option.some.inj (show some (RX0, TX0, 5) = some q from h)]; exact ⟨rfl, rfl, _, tyX0_ok 4 (by decide), fun a => ⟨rfl, rfl⟩⟩
theorem rk_X1_0 : rLk RX1 1 0 := fun q h => by rw [← Option.some.inj (show some (RX1, TX1, 4) = some q from h)]; exact ⟨rfl, rfl, _, tyX1_ok 0 (by decide), fun a => ⟨rfl, rfl⟩⟩
theorem rk_X1_1 : rLk RX1 1 1 := fun q h => by rw [← Option.some.inj (show some (RX1, TX1, 4) = some q from h)]; exact ⟨rfl, rfl, _, tyX1_ok 1 (by decide), fun a => ⟨rfl, rfl⟩⟩
theorem rk_X1_2 : rLk RX1 1 2 := fun q h => by rw [← Option.some.inj (show some (RX1, TX1, 4) = some q from h)]; exact ⟨rfl, rfl, _, tyX1_ok 2 (by decide), fun a => ⟨rfl, rfl⟩⟩
theorem rk_X2_1 : rLk RX2 2 1 := fun q h => by rw [← Option.some.inj (show some (RX2, TX2, 6) = some q from h)]; exact ⟨rfl, rfl, _, tyX2_ok 1 (by decide), fun a => ⟨rfl, rfl⟩⟩
theorem rk_X2_2 : rLk RX2 2 2 := fun q h => by rw [← Option.some.inj (show some (RX2, TX2, 6) = some q from h)]; exact ⟨rfl, rfl, _, tyX2_ok 2 (by decide), fun a => ⟨rfl, rfl⟩⟩
theorem rk_X3_3 : rLk RX3 3 3 := fun q h => by rw [← Option.some.inj (show some (RX3, TX3, 5) = some q from h)]; exact ⟨rfl, rfl, _, tyX3_ok 3 (by decide), fun a => ⟨rfl, rfl⟩⟩
theorem rk_X3_4 : rLk RX3 3 4 := fun q h => by rw [← Option.some.inj (show some (RX3, TX3, 5) = some q from h)]; exact ⟨rfl, rfl, _, tyX3_ok 4 (by decide), fun a => ⟨rfl, rfl⟩⟩
theorem rk_X4_2 : rLk RX4 4 2 := fun q h => by rw [← Option.some.inj (show some (RX4, TX4, 3) = some q from h)]; exact ⟨rfl, rfl, _, tyX4_ok 2 (by decide), fun a => ⟨rfl, rfl⟩⟩
theorem rk_X5_0 : rLk RX5 5 0 := fun q h => by rw [← Option.some.inj (show some (RX5, TX5, 5) = some q from h)]; exact ⟨rfl, rfl, _, tyX5_ok 0 (by decide), fun a => ⟨rfl, rfl⟩⟩
theorem rk_X5_1 : rLk RX5 5 1 := fun q h => by rw [← Option.some.inj (show some (RX5, TX5, 5) = some q from h)]; exact ⟨rfl, rfl, _, tyX5_ok 1 (by decide), fun a => ⟨rfl, rfl⟩⟩
theorem rk_X5_4 : rLk RX5 5 4 := fun q h => by rw [← Option.some.inj (show some (RX5, TX5, 5) = some q from h)]; exact ⟨rfl, rfl, _, tyX5_ok 4 (by decide), fun a => ⟨rfl, rfl⟩⟩
theorem rk_X6_0 : rLk RX6 6 0 := fun q h => by rw [← Option.some.inj (show some (RX6, TX6, 11) = some q from h)]; exact ⟨rfl, rfl, _, tyX6_ok 0 (by decide), fun a => ⟨rfl, rfl⟩⟩
theorem rk_X6_1 : rLk RX6 6 1 := fun q h => by rw [← Option.some.inj (show some (RX6, TX6, 11) = some q from h)]; exact ⟨rfl, rfl, _, tyX6_ok 1 (by decide), fun a => ⟨rfl, rfl⟩⟩
theorem rk_X6_3 : rLk RX6 6 3 := fun q h => by rw [← Option.some.inj (show some (RX6, TX6, 11) = some q from h)]; exact ⟨rfl, rfl, _, tyX6_ok 3 (by decide), fun a => ⟨rfl, rfl⟩⟩
theorem rk_X6_4 : rLk RX6 6 4 := fun q h => by rw [← Option.some.inj (show some (RX6, TX6, 11) = some q from h)]; exact ⟨rfl, rfl, _, tyX6_ok 4 (by decide), fun a => ⟨rfl, rfl⟩⟩
theorem rk_X6_5 : rLk RX6 6 5 := fun q h => by rw [← Option.some.inj (show some (RX6, TX6, 11) = some q from h)]; exact ⟨rfl, rfl, _, tyX6_ok 5 (by decide), fun a => ⟨rfl, rfl⟩⟩
theorem rk_X6_6 : rLk RX6 6 6 := fun q h => by rw [← Option.some.inj (show some (RX6, TX6, 11) = some q from h)]; exact ⟨rfl, rfl, _, tyX6_ok 6 (by decide), fun a => ⟨rfl, rfl⟩⟩
theorem rk_X6_7 : rLk RX6 6 7 := fun q h => by rw [← Option.some.inj (show some (RX6, TX6, 11) = some q from h)]; exact ⟨rfl, rfl, _, tyX6_ok 7 (by decide), fun a => ⟨rfl, rfl⟩⟩
theorem rk_X6_8 : rLk RX6 6 8 := fun q h => by rw [← Option.some.inj (show some (RX6, TX6, 11) = some q from h)]; exact ⟨rfl, rfl, _, tyX6_ok 8 (by decide), fun a => ⟨rfl, rfl⟩⟩
theorem rk_X6_9 : rLk RX6 6 9 := fun q h => by rw [← Option.some.inj (show some (RX6, TX6, 11) = some q from h)]; exact ⟨rfl, rfl, _, tyX6_ok 9 (by decide), fun a => ⟨rfl, rfl⟩⟩
theorem rk_X6_10 : rLk RX6 6 10 := fun q h => by rw [← Option.some.inj (show some (RX6, TX6, 11) = some q from h)]; exact ⟨rfl, rfl, _, tyX6_ok 10 (by decide), fun a => ⟨rfl, rfl⟩⟩
theorem rk_X7_0 : rLk RX7 7 0 := fun q h => by rw [← Option.some.inj (show some (RX7, TX7, 19) = some q from h)]; exact ⟨rfl, rfl, _, tyX7_ok 0 (by decide), fun a => ⟨rfl, rfl⟩⟩
theorem rk_X7_1 : rLk RX7 7 1 := fun q h => by rw [← Option.some.inj (show some (RX7, TX7, 19) = some q from h)]; exact ⟨rfl, rfl, _, tyX7_ok 1 (by decide), fun a => ⟨rfl, rfl⟩⟩
theorem rk_X7_2 : rLk RX7 7 2 := fun q h => by rw [← Option.some.inj (show some (RX7, TX7, 19) = some q from h)]; exact ⟨rfl, rfl, _, tyX7_ok 2 (by decide), fun a => ⟨rfl, rfl⟩⟩
theorem rk_X7_4 : rLk RX7 7 4 := fun q h => by rw [← Option.some.inj (show some (RX7, TX7, 19) = some q from h)]; exact ⟨rfl, rfl, _, tyX7_ok 4 (by decide), fun a => ⟨rfl, rfl⟩⟩
theorem rk_X7_7 : rLk RX7 7 7 := fun q h => by rw [← Option.some.inj (show some (RX7, TX7, 19) = some q from h)]; exact ⟨rfl, rfl, _, tyX7_ok 7 (by decide), fun a => ⟨rfl, rfl⟩⟩
theorem rk_X7_8 : rLk RX7 7 8 := fun q h => by rw [← Option.some.inj (show some (RX7, TX7, 19) = some q from h)]; exact ⟨rfl, rfl, _, tyX7_ok 8 (by decide), fun a => ⟨rfl, rfl⟩⟩
theorem rk_X7_10 : rLk RX7 7 10 := fun q h => by rw [← Option.some.inj (show some (RX7, TX7, 19) = some q from h)]; exact ⟨rfl, rfl, _, tyX7_ok 10 (by decide), fun a => ⟨rfl, rfl⟩⟩
theorem rk_X7_11 : rLk RX7 7 11 := fun q h => by rw [← Option.some.inj (show some (RX7, TX7, 19) = some q from h)]; exact ⟨rfl, rfl, _, tyX7_ok 11 (by decide), fun a => ⟨rfl, rfl⟩⟩
theorem rk_X7_12 : rLk RX7 7 12 := fun q h => by rw [← Option.some.inj (show some (RX7, TX7, 19) = some q from h)]; exact ⟨rfl, rfl, _, tyX7_ok 12 (by decide), fun a => ⟨rfl, rfl⟩⟩
theorem rk_X7_13 : rLk RX7 7 13 := fun q h => by rw [← Option.some.inj (show some (RX7, TX7, 19) = some q from h)]; exact ⟨rfl, rfl, _, tyX7_ok 13 (by decide), fun a => ⟨rfl, rfl⟩⟩
theorem rk_X7_15 : rLk RX7 7 15 := fun q h => by rw [← Option.some.inj (show some (RX7, TX7, 19) = some q from h)]; exact ⟨rfl, rfl, _, tyX7_ok 15 (by decide), fun a => ⟨rfl, rfl⟩⟩
theorem rk_X7_16 : rLk RX7 7 16 := fun q h => by rw [← Option.some.inj (show some (RX7, TX7, 19) = some q from h)]; exact ⟨rfl, rfl, _, tyX7_ok 16 (by decide), fun a => ⟨rfl, rfl⟩⟩
theorem rk_X7_17 : rLk RX7 7 17 := fun q h => by rw [← Option.some.inj (show some (RX7, TX7, 19) = some q from h)]; exact ⟨rfl, rfl, _, tyX7_ok 17 (by decide), fun a => ⟨rfl, rfl⟩⟩
theorem rk_X7_18 : rLk RX7 7 18 := fun q h => by rw [← Option.some.inj (show some (RX7, TX7, 19) = some q from h)]; exact ⟨rfl, rfl, _, tyX7_ok 18 (by decide), fun a => ⟨rfl, rfl⟩⟩
theorem ao_2 (g : fG) (U : State) (h : cFx g U) : va_AO "LeanDiagonals$Setting" U ∧ ∃ (kA : Class) (comp : ClassId), U.vm.classes[g.2.2.2 2]? = some kA ∧ kA.kind = .array comp (.object "LeanDiagonals$Setting") ∧ U.vm.findClass "LeanDiagonals$Setting" = some comp ∧ U.vm.findClass ("[" ++ (FieldType.object "LeanDiagonals$Setting").toString) = some (g.2.2.2 2) := ⟨h.2.1, (h.1.2 2 (g.2.2.2 2, .object "LeanDiagonals$Setting") rfl).2⟩
theorem ao_3 (g : fG) (U : State) (h : cFx g U) : va_AO "LeanDiagonals$Sheet" U ∧ ∃ (kA : Class) (comp : ClassId), U.vm.classes[g.2.2.2 3]? = some kA ∧ kA.kind = .array comp (.object "LeanDiagonals$Sheet") ∧ U.vm.findClass "LeanDiagonals$Sheet" = some comp ∧ U.vm.findClass ("[" ++ (FieldType.object "LeanDiagonals$Sheet").toString) = some (g.2.2.2 3) := ⟨h.2.2.1, (h.1.2 3 (g.2.2.2 3, .object "LeanDiagonals$Sheet") rfl).2⟩
