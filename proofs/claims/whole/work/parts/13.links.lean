/-! ===== the methods, and the words by which they name fields and one another ===== -/
abbrev Y_X0_remember : fY := (yX0_remember, cX0_remember, 1, (Option.none : Option Jvm.ClassFile.FieldType), 2, 47)
abbrev Y_X0_stepBack : fY := (yX0_stepBack, cX0_stepBack, 1, (Option.some Jvm.ClassFile.FieldType.boolean), 2, 47)
abbrev Y_X0_forget : fY := (yX0_forget, cX0_forget, 1, (Option.none : Option Jvm.ClassFile.FieldType), 0, 0)
abbrev Y_X0_takeFrom : fY := (yX0_takeFrom, cX0_takeFrom, 3, (Option.none : Option Jvm.ClassFile.FieldType), 2, 47)
abbrev Y_X1_usePrime : fY := (yX1_usePrime, cX1_usePrime, 3, (Option.none : Option Jvm.ClassFile.FieldType), 0, 0)
abbrev Y_X1_fill : fY := (yX1_fill, cX1_fill, 6, (Option.none : Option Jvm.ClassFile.FieldType), 3, 70)
abbrev Y_X1_clearColumn : fY := (yX1_clearColumn, cX1_clearColumn, 4, (Option.none : Option Jvm.ClassFile.FieldType), 0, 0)
abbrev Y_X1_determinant : fY := (yX1_determinant, cX1_determinant, 6, (Option.some Jvm.ClassFile.FieldType.int), 2, 54)
abbrev Y_X1_solveLeast : fY := (yX1_solveLeast, cX1_solveLeast, 5, (Option.some Jvm.ClassFile.FieldType.int), 2, 55)
abbrev Y_X1_clearOthers : fY := (yX1_clearOthers, cX1_clearOthers, 7, (Option.none : Option Jvm.ClassFile.FieldType), 1, 29)
abbrev Y_X1_findPivot : fY := (yX1_findPivot, cX1_findPivot, 6, (Option.some Jvm.ClassFile.FieldType.boolean), 1, 29)
abbrev Y_X1_takeAway : fY := (yX1_takeAway, cX1_takeAway, 10, (Option.none : Option Jvm.ClassFile.FieldType), 0, 0)
abbrev Y_X2_takeLetter : fY := (yX2_takeLetter, cX2_takeLetter, 2, (Option.some Jvm.ClassFile.FieldType.boolean), 0, 0)
abbrev Y_X2_readMatrix : fY := (yX2_readMatrix, cX2_readMatrix, 3, (Option.some Jvm.ClassFile.FieldType.int), 4, 85)
abbrev Y_X2_readRow : fY := (yX2_readRow, cX2_readRow, 4, (Option.some Jvm.ClassFile.FieldType.int), 3, 62)
abbrev Y_X2_readSide : fY := (yX2_readSide, cX2_readSide, 3, (Option.some Jvm.ClassFile.FieldType.int), 3, 62)
abbrev Y_X2_clearSide : fY := (yX2_clearSide, cX2_clearSide, 2, (Option.none : Option Jvm.ClassFile.FieldType), 0, 0)
abbrev Y_X2_readNumber : fY := (yX2_readNumber, cX2_readNumber, 3, (Option.some Jvm.ClassFile.FieldType.int), 2, 40)
abbrev Y_X2_skipBlanks : fY := (yX2_skipBlanks, cX2_skipBlanks, 1, (Option.none : Option Jvm.ClassFile.FieldType), 1, 20)
abbrev Y_X2_isDigitHere : fY := (yX2_isDigitHere, cX2_isDigitHere, 1, (Option.some Jvm.ClassFile.FieldType.boolean), 1, 20)
abbrev Y_X2_letterHere : fY := (yX2_letterHere, cX2_letterHere, 1, (Option.some Jvm.ClassFile.FieldType.int), 0, 0)
abbrev Y_X2_faultHere : fY := (yX2_faultHere, cX2_faultHere, 1, (Option.some Jvm.ClassFile.FieldType.int), 0, 0)
abbrev Y_X2_kindOf : fY := (yX2_kindOf, cX2_kindOf, 1, (Option.some Jvm.ClassFile.FieldType.int), 0, 0)
abbrev Y_X3_rowLength : fY := (yX3_rowLength, cX3_rowLength, 1, (Option.some Jvm.ClassFile.FieldType.int), 0, 0)
abbrev Y_X3_takeFrom : fY := (yX3_takeFrom, cX3_takeFrom, 2, (Option.none : Option Jvm.ClassFile.FieldType), 1, 26)
abbrev Y_X3_cellAt : fY := (yX3_cellAt, cX3_cellAt, 6, (Option.some Jvm.ClassFile.FieldType.int), 2, 45)
abbrev Y_X3_placeAt : fY := (yX3_placeAt, cX3_placeAt, 5, (Option.some Jvm.ClassFile.FieldType.int), 1, 21)
abbrev Y_X3_leaveOver : fY := (yX3_leaveOver, cX3_leaveOver, 3, (Option.none : Option Jvm.ClassFile.FieldType), 1, 20)
abbrev Y_X3_addBorder : fY := (yX3_addBorder, cX3_addBorder, 2, (Option.none : Option Jvm.ClassFile.FieldType), 1, 26)
abbrev Y_X3_dropBorder : fY := (yX3_dropBorder, cX3_dropBorder, 1, (Option.none : Option Jvm.ClassFile.FieldType), 1, 26)
abbrev Y_X3_reverseRow : fY := (yX3_reverseRow, cX3_reverseRow, 4, (Option.none : Option Jvm.ClassFile.FieldType), 1, 20)
abbrev Y_X3_driftOnce : fY := (yX3_driftOnce, cX3_driftOnce, 2, (Option.none : Option Jvm.ClassFile.FieldType), 1, 20)
abbrev Y_X4_isMissing : fY := (yX4_isMissing, cX4_isMissing, 1, (Option.some Jvm.ClassFile.FieldType.boolean), 0, 0)
abbrev Y_X4_begin : fY := (yX4_begin, cX4_begin, 4, (Option.none : Option Jvm.ClassFile.FieldType), 0, 0)
abbrev Y_X4_lose : fY := (yX4_lose, cX4_lose, 1, (Option.none : Option Jvm.ClassFile.FieldType), 0, 0)
abbrev Y_X4_holds : fY := (yX4_holds, cX4_holds, 3, (Option.some Jvm.ClassFile.FieldType.boolean), 0, 0)
abbrev Y_X5_isOf : fY := (yX5_isOf, cX5_isOf, 4, (Option.some Jvm.ClassFile.FieldType.boolean), 1, 20)
abbrev Y_X5_begin : fY := (yX5_begin, cX5_begin, 5, (Option.none : Option Jvm.ClassFile.FieldType), 2, 47)
abbrev Y_X5_weighted : fY := (yX5_weighted, cX5_weighted, 5, (Option.some Jvm.ClassFile.FieldType.long), 1, 25)
abbrev Y_X6_prime : fY := (yX6_prime, cX6_prime, 3, (Option.some Jvm.ClassFile.FieldType.int), 2, 42)
abbrev Y_X6_type : fY := (yX6_type, cX6_type, 2, (Option.some Jvm.ClassFile.FieldType.int), 1, 21)
abbrev Y_X6_matrix : fY := (yX6_matrix, cX6_matrix, 3, (Option.some Jvm.ClassFile.FieldType.int), 5, 107)
abbrev Y_X6_line : fY := (yX6_line, cX6_line, 2, (Option.some Jvm.ClassFile.FieldType.int), 2, 41)
abbrev Y_X6_right : fY := (yX6_right, cX6_right, 2, (Option.some Jvm.ClassFile.FieldType.int), 1, 21)
abbrev Y_X6_entry : fY := (yX6_entry, cX6_entry, 3, (Option.some Jvm.ClassFile.FieldType.int), 3, 70)
abbrev Y_X6_count : fY := (yX6_count, cX6_count, 2, (Option.some Jvm.ClassFile.FieldType.int), 6, 139)
abbrev Y_X6_change : fY := (yX6_change, cX6_change, 4, (Option.some Jvm.ClassFile.FieldType.int), 3, 67)
abbrev Y_X6_put : fY := (yX6_put, cX6_put, 4, (Option.some Jvm.ClassFile.FieldType.int), 3, 67)
abbrev Y_X6_shape : fY := (yX6_shape, cX6_shape, 3, (Option.some Jvm.ClassFile.FieldType.int), 3, 67)
abbrev Y_X6_widen : fY := (yX6_widen, cX6_widen, 1, (Option.some Jvm.ClassFile.FieldType.int), 3, 67)
abbrev Y_X6_cut : fY := (yX6_cut, cX6_cut, 1, (Option.some Jvm.ClassFile.FieldType.int), 3, 67)
abbrev Y_X6_turn : fY := (yX6_turn, cX6_turn, 1, (Option.some Jvm.ClassFile.FieldType.int), 6, 137)
abbrev Y_X6_drift : fY := (yX6_drift, cX6_drift, 3, (Option.some Jvm.ClassFile.FieldType.int), 6, 137)
abbrev Y_X6_undo : fY := (yX6_undo, cX6_undo, 1, (Option.some Jvm.ClassFile.FieldType.int), 3, 67)
abbrev Y_X6_seed : fY := (yX6_seed, cX6_seed, 3, (Option.some Jvm.ClassFile.FieldType.int), 0, 0)
abbrev Y_X6_corner : fY := (yX6_corner, cX6_corner, 2, (Option.some Jvm.ClassFile.FieldType.int), 5, 117)
abbrev Y_X6_leap : fY := (yX6_leap, cX6_leap, 3, (Option.some Jvm.ClassFile.FieldType.int), 5, 117)
abbrev Y_X6_solved : fY := (yX6_solved, cX6_solved, 4, (Option.some Jvm.ClassFile.FieldType.long), 5, 117)
abbrev Y_X6_inverse : fY := (yX6_inverse, cX6_inverse, 5, (Option.some Jvm.ClassFile.FieldType.int), 6, 137)
abbrev Y_X6_weak : fY := (yX6_weak, cX6_weak, 6, (Option.some Jvm.ClassFile.FieldType.int), 5, 117)
abbrev Y_X6_mend : fY := (yX6_mend, cX6_mend, 4, (Option.some Jvm.ClassFile.FieldType.int), 6, 139)
abbrev Y_X6_term : fY := (yX6_term, cX6_term, 3, (Option.some Jvm.ClassFile.FieldType.int), 5, 126)
abbrev Y_X6_next : fY := (yX6_next, cX6_next, 7, (Option.some Jvm.ClassFile.FieldType.int), 5, 126)
abbrev Y_X6_wiped : fY := (yX6_wiped, cX6_wiped, 9, (Option.some Jvm.ClassFile.FieldType.long), 6, 140)
abbrev Y_X6_image : fY := (yX6_image, cX6_image, 1, (Option.some Jvm.ClassFile.FieldType.int), 3, 69)
abbrev Y_X6_restore : fY := (yX6_restore, cX6_restore, 1, (Option.some Jvm.ClassFile.FieldType.int), 3, 69)
abbrev Y_X6_came : fY := (yX6_came, cX6_came, 8, (Option.some Jvm.ClassFile.FieldType.int), 5, 116)
abbrev Y_X6_apply : fY := (yX6_apply, cX6_apply, 7, (Option.some Jvm.ClassFile.FieldType.int), 4, 94)
abbrev Y_X6_film : fY := (yX6_film, cX6_film, 9, (Option.some Jvm.ClassFile.FieldType.int), 5, 117)
abbrev Y_X6_sheet : fY := (yX6_sheet, cX6_sheet, 4, (Option.some Jvm.ClassFile.FieldType.int), 1, 23)
abbrev Y_X6_drop : fY := (yX6_drop, cX6_drop, 3, (Option.some Jvm.ClassFile.FieldType.int), 1, 20)
abbrev Y_X6_item : fY := (yX6_item, cX6_item, 7, (Option.some Jvm.ClassFile.FieldType.int), 2, 46)
abbrev Y_X6_copy : fY := (yX6_copy, cX6_copy, 8, (Option.some Jvm.ClassFile.FieldType.int), 1, 26)
abbrev Y_X6_isPrime : fY := (yX6_isPrime, cX6_isPrime, 2, (Option.some Jvm.ClassFile.FieldType.boolean), 0, 0)
abbrev Y_X6_isPlace : fY := (yX6_isPlace, cX6_isPlace, 2, (Option.some Jvm.ClassFile.FieldType.boolean), 1, 20)
abbrev Y_X6_isWithin : fY := (yX6_isWithin, cX6_isWithin, 2, (Option.some Jvm.ClassFile.FieldType.boolean), 0, 0)
abbrev Y_X6_isNumber : fY := (yX6_isNumber, cX6_isNumber, 3, (Option.some Jvm.ClassFile.FieldType.boolean), 0, 0)
abbrev Y_X6_isHalf : fY := (yX6_isHalf, cX6_isHalf, 1, (Option.some Jvm.ClassFile.FieldType.boolean), 0, 0)
abbrev Y_X6_isSheet : fY := (yX6_isSheet, cX6_isSheet, 1, (Option.some Jvm.ClassFile.FieldType.boolean), 0, 0)
abbrev Y_X6_isLane : fY := (yX6_isLane, cX6_isLane, 1, (Option.some Jvm.ClassFile.FieldType.boolean), 0, 0)
abbrev Y_X6_refusalOf : fY := (yX6_refusalOf, cX6_refusalOf, 5, (Option.some Jvm.ClassFile.FieldType.int), 1, 22)
abbrev Y_X6_cornerOf : fY := (yX6_cornerOf, cX6_cornerOf, 3, (Option.some Jvm.ClassFile.FieldType.int), 4, 95)
abbrev Y_X6_wholeCorner : fY := (yX6_wholeCorner, cX6_wholeCorner, 1, (Option.some Jvm.ClassFile.FieldType.int), 5, 117)
abbrev Y_X6_singularCorners : fY := (yX6_singularCorners, cX6_singularCorners, 3, (Option.some Jvm.ClassFile.FieldType.int), 5, 117)
abbrev Y_X6_rankOfMatrix : fY := (yX6_rankOfMatrix, cX6_rankOfMatrix, 2, (Option.some Jvm.ClassFile.FieldType.int), 4, 95)
abbrev Y_X6_solveMatrix : fY := (yX6_solveMatrix, cX6_solveMatrix, 3, (Option.some Jvm.ClassFile.FieldType.long), 4, 95)
abbrev Y_X6_leastMender : fY := (yX6_leastMender, cX6_leastMender, 3, (Option.some Jvm.ClassFile.FieldType.int), 5, 117)
abbrev Y_X6_findLaw : fY := (yX6_findLaw, cX6_findLaw, 3, (Option.some Jvm.ClassFile.FieldType.int), 4, 104)
abbrev Y_X6_fitsLaw : fY := (yX6_fitsLaw, cX6_fitsLaw, 6, (Option.some Jvm.ClassFile.FieldType.boolean), 3, 79)
abbrev Y_X6_countWipes : fY := (yX6_countWipes, cX6_countWipes, 4, (Option.none : Option Jvm.ClassFile.FieldType), 5, 117)
abbrev Y_X6_power : fY := (yX6_power, cX6_power, 6, (Option.some Jvm.ClassFile.FieldType.long), 0, 0)
abbrev Y_X6_greatestShared : fY := (yX6_greatestShared, cX6_greatestShared, 11, (Option.some Jvm.ClassFile.FieldType.long), 0, 0)
abbrev Y_X6_readNumbers : fY := (yX6_readNumbers, cX6_readNumbers, 5, (Option.some Jvm.ClassFile.FieldType.boolean), 1, 22)
abbrev Y_X6_rowTimesGiven : fY := (yX6_rowTimesGiven, cX6_rowTimesGiven, 5, (Option.some Jvm.ClassFile.FieldType.int), 3, 70)
abbrev Y_X6_comesBy : fY := (yX6_comesBy, cX6_comesBy, 3, (Option.some Jvm.ClassFile.FieldType.boolean), 4, 94)
abbrev Y_X6_lowestBits : fY := (yX6_lowestBits, cX6_lowestBits, 3, (Option.some Jvm.ClassFile.FieldType.long), 0, 0)
abbrev Y_X7_in : fY := (yX7_in, cX7_in, 6, (Option.some Jvm.ClassFile.FieldType.boolean), 0, 0)
abbrev Y_X7_lines : fY := (yX7_lines, cX7_lines, 1, (Option.some Jvm.ClassFile.FieldType.int), 0, 0)
abbrev Y_X7_isNumber : fY := (yX7_isNumber, cX7_isNumber, 3, (Option.some Jvm.ClassFile.FieldType.boolean), 1, 25)
abbrev Y_X7_isLine : fY := (yX7_isLine, cX7_isLine, 2, (Option.some Jvm.ClassFile.FieldType.boolean), 1, 25)
abbrev Y_X7_isRow : fY := (yX7_isRow, cX7_isRow, 2, (Option.some Jvm.ClassFile.FieldType.boolean), 1, 25)
abbrev Y_X7_entryBy : fY := (yX7_entryBy, cX7_entryBy, 7, (Option.some Jvm.ClassFile.FieldType.int), 0, 0)
abbrev Y_X7_inverseOf : fY := (yX7_inverseOf, cX7_inverseOf, 3, (Option.some Jvm.ClassFile.FieldType.int), 0, 0)
abbrev Y_X7_swaps : fY := (yX7_swaps, cX7_swaps, 5, (Option.none : Option Jvm.ClassFile.FieldType), 0, 0)
abbrev Y_X7_multiplies : fY := (yX7_multiplies, cX7_multiplies, 4, (Option.none : Option Jvm.ClassFile.FieldType), 0, 0)
abbrev Y_X7_takes : fY := (yX7_takes, cX7_takes, 6, (Option.none : Option Jvm.ClassFile.FieldType), 0, 0)
abbrev Y_X7_pivot : fY := (yX7_pivot, cX7_pivot, 6, (Option.some Jvm.ClassFile.FieldType.int), 0, 0)
abbrev Y_X7_fills : fY := (yX7_fills, cX7_fills, 5, (Option.none : Option Jvm.ClassFile.FieldType), 1, 26)
abbrev Y_X7_cornerOf : fY := (yX7_cornerOf, cX7_cornerOf, 8, (Option.some Jvm.ClassFile.FieldType.int), 2, 50)
abbrev Y_X7_worksOut : fY := (yX7_worksOut, cX7_worksOut, 6, (Option.some Jvm.ClassFile.FieldType.boolean), 1, 25)
abbrev Y_X7_least : fY := (yX7_least, cX7_least, 3, (Option.some Jvm.ClassFile.FieldType.int), 0, 0)
abbrev Y_X7_solves : fY := (yX7_solves, cX7_solves, 4, (Option.some Jvm.ClassFile.FieldType.boolean), 2, 50)
abbrev Y_X7_ways : fY := (yX7_ways, cX7_ways, 4, (Option.some Jvm.ClassFile.FieldType.long), 3, 73)
abbrev Y_X7_isPrime : fY := (yX7_isPrime, cX7_isPrime, 3, (Option.some Jvm.ClassFile.FieldType.boolean), 1, 25)
abbrev Y_X7_prime : fY := (yX7_prime, cX7_prime, 4, (Option.some Jvm.ClassFile.FieldType.int), 2, 47)
abbrev Y_X7_line : fY := (yX7_line, cX7_line, 2, (Option.some Jvm.ClassFile.FieldType.int), 2, 46)
abbrev Y_X7_right : fY := (yX7_right, cX7_right, 2, (Option.some Jvm.ClassFile.FieldType.int), 2, 46)
abbrev Y_X7_entry : fY := (yX7_entry, cX7_entry, 3, (Option.some Jvm.ClassFile.FieldType.int), 2, 46)
abbrev Y_X7_singular : fY := (yX7_singular, cX7_singular, 3, (Option.some Jvm.ClassFile.FieldType.int), 3, 77)
abbrev Y_X7_rankOf : fY := (yX7_rankOf, cX7_rankOf, 2, (Option.some Jvm.ClassFile.FieldType.int), 3, 73)
abbrev Y_X7_count : fY := (yX7_count, cX7_count, 2, (Option.some Jvm.ClassFile.FieldType.int), 4, 99)
abbrev Y_X7_type : fY := (yX7_type, cX7_type, 2, (Option.some Jvm.ClassFile.FieldType.int), 1, 25)
abbrev Y_X7_here : fY := (yX7_here, cX7_here, 1, (Option.some Jvm.ClassFile.FieldType.int), 0, 0)
abbrev Y_X7_has : fY := (yX7_has, cX7_has, 2, (Option.some Jvm.ClassFile.FieldType.boolean), 1, 20)
abbrev Y_X7_number : fY := (yX7_number, cX7_number, 3, (Option.some Jvm.ClassFile.FieldType.int), 2, 47)
abbrev Y_X7_kindBy : fY := (yX7_kindBy, cX7_kindBy, 1, (Option.some Jvm.ClassFile.FieldType.int), 0, 0)
abbrev Y_X7_numbers : fY := (yX7_numbers, cX7_numbers, 6, (Option.some Jvm.ClassFile.FieldType.int), 3, 69)
abbrev Y_X7_fault : fY := (yX7_fault, cX7_fault, 3, (Option.some Jvm.ClassFile.FieldType.int), 1, 20)
abbrev Y_X7_matrix : fY := (yX7_matrix, cX7_matrix, 6, (Option.some Jvm.ClassFile.FieldType.int), 4, 94)
abbrev Y_X7_notes : fY := (yX7_notes, cX7_notes, 2, (Option.none : Option Jvm.ClassFile.FieldType), 0, 0)
abbrev Y_X7_change : fY := (yX7_change, cX7_change, 4, (Option.some Jvm.ClassFile.FieldType.int), 2, 47)
abbrev Y_X7_put : fY := (yX7_put, cX7_put, 4, (Option.some Jvm.ClassFile.FieldType.int), 2, 47)
abbrev Y_X7_shape : fY := (yX7_shape, cX7_shape, 3, (Option.some Jvm.ClassFile.FieldType.int), 1, 25)
abbrev Y_X7_widen : fY := (yX7_widen, cX7_widen, 3, (Option.some Jvm.ClassFile.FieldType.int), 1, 21)
abbrev Y_X7_cut : fY := (yX7_cut, cX7_cut, 3, (Option.some Jvm.ClassFile.FieldType.int), 1, 21)
abbrev Y_X7_turn : fY := (yX7_turn, cX7_turn, 4, (Option.some Jvm.ClassFile.FieldType.int), 3, 77)
abbrev Y_X7_drift : fY := (yX7_drift, cX7_drift, 5, (Option.some Jvm.ClassFile.FieldType.int), 3, 77)
abbrev Y_X7_undo : fY := (yX7_undo, cX7_undo, 2, (Option.some Jvm.ClassFile.FieldType.int), 0, 0)
abbrev Y_X7_seed : fY := (yX7_seed, cX7_seed, 3, (Option.some Jvm.ClassFile.FieldType.int), 0, 0)
abbrev Y_X7_corner : fY := (yX7_corner, cX7_corner, 2, (Option.some Jvm.ClassFile.FieldType.int), 3, 77)
abbrev Y_X7_leap : fY := (yX7_leap, cX7_leap, 3, (Option.some Jvm.ClassFile.FieldType.int), 3, 77)
abbrev Y_X7_solved : fY := (yX7_solved, cX7_solved, 4, (Option.some Jvm.ClassFile.FieldType.long), 4, 96)
abbrev Y_X7_inverse : fY := (yX7_inverse, cX7_inverse, 4, (Option.some Jvm.ClassFile.FieldType.int), 3, 73)
abbrev Y_X7_weak : fY := (yX7_weak, cX7_weak, 7, (Option.some Jvm.ClassFile.FieldType.int), 3, 77)
abbrev Y_X7_mends : fY := (yX7_mends, cX7_mends, 5, (Option.some Jvm.ClassFile.FieldType.int), 3, 77)
abbrev Y_X7_mend : fY := (yX7_mend, cX7_mend, 4, (Option.some Jvm.ClassFile.FieldType.int), 4, 101)
abbrev Y_X7_isLaw : fY := (yX7_isLaw, cX7_isLaw, 5, (Option.some Jvm.ClassFile.FieldType.boolean), 2, 50)
abbrev Y_X7_law : fY := (yX7_law, cX7_law, 2, (Option.some Jvm.ClassFile.FieldType.int), 3, 74)
abbrev Y_X7_term : fY := (yX7_term, cX7_term, 2, (Option.some Jvm.ClassFile.FieldType.int), 4, 95)
abbrev Y_X7_next : fY := (yX7_next, cX7_next, 7, (Option.some Jvm.ClassFile.FieldType.int), 4, 95)
abbrev Y_X7_wiped : fY := (yX7_wiped, cX7_wiped, 14, (Option.some Jvm.ClassFile.FieldType.long), 3, 77)
abbrev Y_X7_image : fY := (yX7_image, cX7_image, 2, (Option.some Jvm.ClassFile.FieldType.int), 0, 0)
abbrev Y_X7_restore : fY := (yX7_restore, cX7_restore, 2, (Option.some Jvm.ClassFile.FieldType.int), 0, 0)
abbrev Y_X7_isSheet : fY := (yX7_isSheet, cX7_isSheet, 1, (Option.some Jvm.ClassFile.FieldType.boolean), 1, 25)
abbrev Y_X7_cutTo : fY := (yX7_cutTo, cX7_cutTo, 3, (Option.some Jvm.ClassFile.FieldType.long), 0, 0)
abbrev Y_X7_sheet : fY := (yX7_sheet, cX7_sheet, 5, (Option.some Jvm.ClassFile.FieldType.int), 2, 45)
abbrev Y_X7_drop : fY := (yX7_drop, cX7_drop, 2, (Option.some Jvm.ClassFile.FieldType.int), 2, 45)
abbrev Y_X7_why : fY := (yX7_why, cX7_why, 5, (Option.some Jvm.ClassFile.FieldType.int), 0, 0)
abbrev Y_X7_item : fY := (yX7_item, cX7_item, 7, (Option.some Jvm.ClassFile.FieldType.int), 2, 45)
abbrev Y_X7_copy : fY := (yX7_copy, cX7_copy, 7, (Option.some Jvm.ClassFile.FieldType.int), 2, 45)
abbrev Y_X7_areNumbers : fY := (yX7_areNumbers, cX7_areNumbers, 5, (Option.some Jvm.ClassFile.FieldType.boolean), 2, 47)
abbrev Y_X7_comes : fY := (yX7_comes, cX7_comes, 7, (Option.some Jvm.ClassFile.FieldType.int), 1, 26)
abbrev Y_X7_came : fY := (yX7_came, cX7_came, 11, (Option.some Jvm.ClassFile.FieldType.int), 3, 71)
abbrev Y_X7_apply : fY := (yX7_apply, cX7_apply, 8, (Option.some Jvm.ClassFile.FieldType.int), 3, 71)
abbrev Y_X7_film : fY := (yX7_film, cX7_film, 9, (Option.some Jvm.ClassFile.FieldType.int), 4, 96)
theorem ic_X0 : ∀ w ∈ u_ws RX0 TX0 5, w ∈ ftb := by decide +kernel
theorem ic_X1 : ∀ w ∈ u_ws RX1 TX1 4, w ∈ ftb := by decide +kernel
theorem ic_X2 : ∀ w ∈ u_ws RX2 TX2 6, w ∈ ftb := by decide +kernel
theorem ic_X3 : ∀ w ∈ u_ws RX3 TX3 5, w ∈ ftb := by decide +kernel
theorem ic_X4 : ∀ w ∈ u_ws RX4 TX4 3, w ∈ ftb := by decide +kernel
theorem ic_X5 : ∀ w ∈ u_ws RX5 TX5 5, w ∈ ftb := by decide +kernel
theorem ic_X6 : ∀ w ∈ u_ws RX6 TX6 11, w ∈ ftb := by decide +kernel
theorem ic_X7 : ∀ w ∈ u_ws RX7 TX7 19, w ∈ ftb := by decide +kernel
theorem fl_X3_9 : fFl RX3 9 3 0 := ⟨RX3, TX3, 5, tyX3, rfl, ic_X3, by decide, ftb_in 90 (by decide +kernel) rfl, tyX3_ok, nmX3, fun _ => Or.inl rfl⟩
theorem fl_X5_33 : fFl RX5 33 3 0 := ⟨RX3, TX3, 5, tyX3, rfl, ic_X3, by decide, ftb_in 91 (by decide +kernel) rfl, tyX3_ok, nmX3, fun _ => Or.inl rfl⟩
theorem fl_X6_106 : fFl RX6 106 3 0 := ⟨RX3, TX3, 5, tyX3, rfl, ic_X3, by decide, ftb_in 92 (by decide +kernel) rfl, tyX3_ok, nmX3, fun _ => Or.inl rfl⟩
theorem fl_X2_67 : fFl RX2 67 3 0 := ⟨RX3, TX3, 5, tyX3, rfl, ic_X3, by decide, ftb_in 93 (by decide +kernel) rfl, tyX3_ok, nmX3, fun _ => Or.inl rfl⟩
theorem fl_X3_15 : fFl RX3 15 3 1 := ⟨RX3, TX3, 5, tyX3, rfl, ic_X3, by decide, ftb_in 94 (by decide +kernel) rfl, tyX3_ok, nmX3, fun _ => Or.inl rfl⟩
theorem fl_X5_36 : fFl RX5 36 3 1 := ⟨RX3, TX3, 5, tyX3, rfl, ic_X3, by decide, ftb_in 95 (by decide +kernel) rfl, tyX3_ok, nmX3, fun _ => Or.inl rfl⟩
theorem fl_X2_46 : fFl RX2 46 3 1 := ⟨RX3, TX3, 5, tyX3, rfl, ic_X3, by decide, ftb_in 96 (by decide +kernel) rfl, tyX3_ok, nmX3, fun _ => Or.inl rfl⟩
theorem fl_X1_31 : fFl RX1 31 3 1 := ⟨RX3, TX3, 5, tyX3, rfl, ic_X3, by decide, ftb_in 97 (by decide +kernel) rfl, tyX3_ok, nmX3, fun _ => Or.inl rfl⟩
theorem fl_X6_121 : fFl RX6 121 3 1 := ⟨RX3, TX3, 5, tyX3, rfl, ic_X3, by decide, ftb_in 98 (by decide +kernel) rfl, tyX3_ok, nmX3, fun _ => Or.inl rfl⟩
theorem fl_X3_18 : fFl RX3 18 3 2 := ⟨RX3, TX3, 5, tyX3, rfl, ic_X3, by decide, ftb_in 99 (by decide +kernel) rfl, tyX3_ok, nmX3, fun _ => Or.inl rfl⟩
theorem fl_X6_96 : fFl RX6 96 3 2 := ⟨RX3, TX3, 5, tyX3, rfl, ic_X3, by decide, ftb_in 100 (by decide +kernel) rfl, tyX3_ok, nmX3, fun _ => Or.inl rfl⟩
theorem fl_X3_21 : fFl RX3 21 3 3 := ⟨RX3, TX3, 5, tyX3, rfl, ic_X3, by decide, ftb_in 101 (by decide +kernel) rfl, tyX3_ok, nmX3, fun h => absurd h (by decide)⟩
theorem fl_X5_43 : fFl RX5 43 3 3 := ⟨RX3, TX3, 5, tyX3, rfl, ic_X3, by decide, ftb_in 102 (by decide +kernel) rfl, tyX3_ok, nmX3, fun h => absurd h (by decide)⟩
theorem fl_X2_64 : fFl RX2 64 3 3 := ⟨RX3, TX3, 5, tyX3, rfl, ic_X3, by decide, ftb_in 103 (by decide +kernel) rfl, tyX3_ok, nmX3, fun h => absurd h (by decide)⟩
theorem fl_X6_112 : fFl RX6 112 3 3 := ⟨RX3, TX3, 5, tyX3, rfl, ic_X3, by decide, ftb_in 104 (by decide +kernel) rfl, tyX3_ok, nmX3, fun h => absurd h (by decide)⟩
theorem fl_X3_25 : fFl RX3 25 3 4 := ⟨RX3, TX3, 5, tyX3, rfl, ic_X3, by decide, ftb_in 105 (by decide +kernel) rfl, tyX3_ok, nmX3, fun h => absurd h (by decide)⟩
theorem fl_X2_70 : fFl RX2 70 3 4 := ⟨RX3, TX3, 5, tyX3, rfl, ic_X3, by decide, ftb_in 106 (by decide +kernel) rfl, tyX3_ok, nmX3, fun h => absurd h (by decide)⟩
theorem fl_X6_118 : fFl RX6 118 3 4 := ⟨RX3, TX3, 5, tyX3, rfl, ic_X3, by decide, ftb_in 107 (by decide +kernel) rfl, tyX3_ok, nmX3, fun h => absurd h (by decide)⟩
theorem fl_X0_9 : fFl RX0 9 0 0 := ⟨RX0, TX0, 5, tyX0, rfl, ic_X0, by decide, ftb_in 121 (by decide +kernel) rfl, tyX0_ok, nmX0, fun _ => Or.inl rfl⟩
theorem fl_X6_72 : fFl RX6 72 0 0 := ⟨RX0, TX0, 5, tyX0, rfl, ic_X0, by decide, ftb_in 122 (by decide +kernel) rfl, tyX0_ok, nmX0, fun _ => Or.inl rfl⟩
theorem fl_X0_15 : fFl RX0 15 0 1 := ⟨RX0, TX0, 5, tyX0, rfl, ic_X0, by decide, ftb_in 123 (by decide +kernel) rfl, tyX0_ok, nmX0, fun _ => Or.inl rfl⟩
theorem fl_X6_141 : fFl RX6 141 0 1 := ⟨RX0, TX0, 5, tyX0, rfl, ic_X0, by decide, ftb_in 124 (by decide +kernel) rfl, tyX0_ok, nmX0, fun _ => Or.inl rfl⟩
theorem fl_X0_21 : fFl RX0 21 0 2 := ⟨RX0, TX0, 5, tyX0, rfl, ic_X0, by decide, ftb_in 125 (by decide +kernel) rfl, tyX0_ok, nmX0, fun h => absurd h (by decide)⟩
theorem fl_X6_76 : fFl RX6 76 0 2 := ⟨RX0, TX0, 5, tyX0, rfl, ic_X0, by decide, ftb_in 126 (by decide +kernel) rfl, tyX0_ok, nmX0, fun h => absurd h (by decide)⟩
theorem fl_X0_25 : fFl RX0 25 0 3 := ⟨RX0, TX0, 5, tyX0, rfl, ic_X0, by decide, ftb_in 127 (by decide +kernel) rfl, tyX0_ok, nmX0, fun _ => Or.inl rfl⟩
theorem fl_X0_28 : fFl RX0 28 0 4 := ⟨RX0, TX0, 5, tyX0, rfl, ic_X0, by decide, ftb_in 128 (by decide +kernel) rfl, tyX0_ok, nmX0, fun h => absurd h (by decide)⟩
theorem fl_X2_9 : fFl RX2 9 2 0 := ⟨RX2, TX2, 6, tyX2, rfl, ic_X2, by decide, ftb_in 148 (by decide +kernel) rfl, tyX2_ok, nmX2, fun _ => Or.inl rfl⟩
theorem fl_X6_89 : fFl RX6 89 2 0 := ⟨RX2, TX2, 6, tyX2, rfl, ic_X2, by decide, ftb_in 149 (by decide +kernel) rfl, tyX2_ok, nmX2, fun _ => Or.inl rfl⟩
theorem fl_X2_18 : fFl RX2 18 2 1 := ⟨RX2, TX2, 6, tyX2, rfl, ic_X2, by decide, ftb_in 150 (by decide +kernel) rfl, tyX2_ok, nmX2, fun h => absurd h (by decide)⟩
theorem fl_X6_99 : fFl RX6 99 2 1 := ⟨RX2, TX2, 6, tyX2, rfl, ic_X2, by decide, ftb_in 151 (by decide +kernel) rfl, tyX2_ok, nmX2, fun h => absurd h (by decide)⟩
theorem fl_X2_22 : fFl RX2 22 2 2 := ⟨RX2, TX2, 6, tyX2, rfl, ic_X2, by decide, ftb_in 152 (by decide +kernel) rfl, tyX2_ok, nmX2, fun h => absurd h (by decide)⟩
theorem fl_X2_26 : fFl RX2 26 2 3 := ⟨RX2, TX2, 6, tyX2, rfl, ic_X2, by decide, ftb_in 153 (by decide +kernel) rfl, tyX2_ok, nmX2, fun _ => Or.inl rfl⟩
theorem fl_X2_29 : fFl RX2 29 2 4 := ⟨RX2, TX2, 6, tyX2, rfl, ic_X2, by decide, ftb_in 154 (by decide +kernel) rfl, tyX2_ok, nmX2, fun _ => Or.inl rfl⟩
theorem fl_X2_32 : fFl RX2 32 2 5 := ⟨RX2, TX2, 6, tyX2, rfl, ic_X2, by decide, ftb_in 155 (by decide +kernel) rfl, tyX2_ok, nmX2, fun _ => Or.inl rfl⟩
theorem fl_X1_11 : fFl RX1 11 1 0 := ⟨RX1, TX1, 4, tyX1, rfl, ic_X1, by decide, ftb_in 177 (by decide +kernel) rfl, tyX1_ok, nmX1, fun h => absurd h (by decide)⟩
theorem fl_X6_186 : fFl RX6 186 1 0 := ⟨RX1, TX1, 4, tyX1, rfl, ic_X1, by decide, ftb_in 178 (by decide +kernel) rfl, tyX1_ok, nmX1, fun h => absurd h (by decide)⟩
theorem fl_X1_16 : fFl RX1 16 1 1 := ⟨RX1, TX1, 4, tyX1, rfl, ic_X1, by decide, ftb_in 179 (by decide +kernel) rfl, tyX1_ok, nmX1, fun h => absurd h (by decide)⟩
theorem fl_X6_179 : fFl RX6 179 1 1 := ⟨RX1, TX1, 4, tyX1, rfl, ic_X1, by decide, ftb_in 180 (by decide +kernel) rfl, tyX1_ok, nmX1, fun h => absurd h (by decide)⟩
theorem fl_X1_20 : fFl RX1 20 1 2 := ⟨RX1, TX1, 4, tyX1, rfl, ic_X1, by decide, ftb_in 181 (by decide +kernel) rfl, tyX1_ok, nmX1, fun h => absurd h (by decide)⟩
theorem fl_X1_23 : fFl RX1 23 1 3 := ⟨RX1, TX1, 4, tyX1, rfl, ic_X1, by decide, ftb_in 182 (by decide +kernel) rfl, tyX1_ok, nmX1, fun _ => Or.inl rfl⟩
theorem fl_X5_9 : fFl RX5 9 5 0 := ⟨RX5, TX5, 5, tyX5, rfl, ic_X5, by decide, ftb_in 202 (by decide +kernel) rfl, tyX5_ok, nmX5, fun h => absurd h (by decide)⟩
theorem fl_X6_306 : fFl RX6 306 5 0 := ⟨RX5, TX5, 5, tyX5, rfl, ic_X5, by decide, ftb_in 203 (by decide +kernel) rfl, tyX5_ok, nmX5, fun h => absurd h (by decide)⟩
theorem fl_X5_15 : fFl RX5 15 5 1 := ⟨RX5, TX5, 5, tyX5, rfl, ic_X5, by decide, ftb_in 204 (by decide +kernel) rfl, tyX5_ok, nmX5, fun h => absurd h (by decide)⟩
theorem fl_X6_303 : fFl RX6 303 5 1 := ⟨RX5, TX5, 5, tyX5, rfl, ic_X5, by decide, ftb_in 205 (by decide +kernel) rfl, tyX5_ok, nmX5, fun h => absurd h (by decide)⟩
theorem fl_X5_19 : fFl RX5 19 5 2 := ⟨RX5, TX5, 5, tyX5, rfl, ic_X5, by decide, ftb_in 206 (by decide +kernel) rfl, tyX5_ok, nmX5, fun _ => Or.inl rfl⟩
theorem fl_X6_222 : fFl RX6 222 5 2 := ⟨RX5, TX5, 5, tyX5, rfl, ic_X5, by decide, ftb_in 207 (by decide +kernel) rfl, tyX5_ok, nmX5, fun _ => Or.inl rfl⟩
theorem fl_X5_23 : fFl RX5 23 5 3 := ⟨RX5, TX5, 5, tyX5, rfl, ic_X5, by decide, ftb_in 208 (by decide +kernel) rfl, tyX5_ok, nmX5, fun _ => Or.inl rfl⟩
theorem fl_X5_29 : fFl RX5 29 5 4 := ⟨RX5, TX5, 5, tyX5, rfl, ic_X5, by decide, ftb_in 209 (by decide +kernel) rfl, tyX5_ok, nmX5, fun h => absurd h (by decide)⟩
theorem fl_X4_11 : fFl RX4 11 4 0 := ⟨RX4, TX4, 3, tyX4, rfl, ic_X4, by decide, ftb_in 229 (by decide +kernel) rfl, tyX4_ok, nmX4, fun _ => Or.inl rfl⟩
theorem fl_X6_281 : fFl RX6 281 4 0 := ⟨RX4, TX4, 3, tyX4, rfl, ic_X4, by decide, ftb_in 230 (by decide +kernel) rfl, tyX4_ok, nmX4, fun _ => Or.inl rfl⟩
theorem fl_X4_15 : fFl RX4 15 4 1 := ⟨RX4, TX4, 3, tyX4, rfl, ic_X4, by decide, ftb_in 231 (by decide +kernel) rfl, tyX4_ok, nmX4, fun _ => Or.inl rfl⟩
theorem fl_X6_273 : fFl RX6 273 4 1 := ⟨RX4, TX4, 3, tyX4, rfl, ic_X4, by decide, ftb_in 232 (by decide +kernel) rfl, tyX4_ok, nmX4, fun _ => Or.inl rfl⟩
theorem fl_X4_18 : fFl RX4 18 4 2 := ⟨RX4, TX4, 3, tyX4, rfl, ic_X4, by decide, ftb_in 233 (by decide +kernel) rfl, tyX4_ok, nmX4, fun h => absurd h (by decide)⟩
theorem fl_X6_246 : fFl RX6 246 4 2 := ⟨RX4, TX4, 3, tyX4, rfl, ic_X4, by decide, ftb_in 234 (by decide +kernel) rfl, tyX4_ok, nmX4, fun h => absurd h (by decide)⟩
theorem fl_X6_12 : fFl RX6 12 6 0 := ⟨RX6, TX6, 11, tyX6, rfl, ic_X6, by decide, ftb_in 242 (by decide +kernel) rfl, tyX6_ok, nmX6, fun h => absurd h (by decide)⟩
theorem fl_X6_16 : fFl RX6 16 6 1 := ⟨RX6, TX6, 11, tyX6, rfl, ic_X6, by decide, ftb_in 243 (by decide +kernel) rfl, tyX6_ok, nmX6, fun h => absurd h (by decide)⟩
theorem fl_X6_19 : fFl RX6 19 6 2 := ⟨RX6, TX6, 11, tyX6, rfl, ic_X6, by decide, ftb_in 244 (by decide +kernel) rfl, tyX6_ok, nmX6, fun _ => Or.inr rfl⟩
theorem fl_X6_26 : fFl RX6 26 6 3 := ⟨RX6, TX6, 11, tyX6, rfl, ic_X6, by decide, ftb_in 245 (by decide +kernel) rfl, tyX6_ok, nmX6, fun h => absurd h (by decide)⟩
theorem fl_X6_33 : fFl RX6 33 6 4 := ⟨RX6, TX6, 11, tyX6, rfl, ic_X6, by decide, ftb_in 246 (by decide +kernel) rfl, tyX6_ok, nmX6, fun h => absurd h (by decide)⟩
theorem fl_X6_40 : fFl RX6 40 6 5 := ⟨RX6, TX6, 11, tyX6, rfl, ic_X6, by decide, ftb_in 247 (by decide +kernel) rfl, tyX6_ok, nmX6, fun h => absurd h (by decide)⟩
theorem fl_X6_47 : fFl RX6 47 6 6 := ⟨RX6, TX6, 11, tyX6, rfl, ic_X6, by decide, ftb_in 248 (by decide +kernel) rfl, tyX6_ok, nmX6, fun h => absurd h (by decide)⟩
theorem fl_X6_51 : fFl RX6 51 6 7 := ⟨RX6, TX6, 11, tyX6, rfl, ic_X6, by decide, ftb_in 249 (by decide +kernel) rfl, tyX6_ok, nmX6, fun h => absurd h (by decide)⟩
theorem fl_X6_55 : fFl RX6 55 6 8 := ⟨RX6, TX6, 11, tyX6, rfl, ic_X6, by decide, ftb_in 250 (by decide +kernel) rfl, tyX6_ok, nmX6, fun h => absurd h (by decide)⟩
theorem fl_X6_58 : fFl RX6 58 6 9 := ⟨RX6, TX6, 11, tyX6, rfl, ic_X6, by decide, ftb_in 251 (by decide +kernel) rfl, tyX6_ok, nmX6, fun h => absurd h (by decide)⟩
theorem fl_X6_63 : fFl RX6 63 6 10 := ⟨RX6, TX6, 11, tyX6, rfl, ic_X6, by decide, ftb_in 252 (by decide +kernel) rfl, tyX6_ok, nmX6, fun h => absurd h (by decide)⟩
theorem fl_X7_7 : fFl RX7 7 7 0 := ⟨RX7, TX7, 19, tyX7, rfl, ic_X7, by decide, ftb_in 689 (by decide +kernel) rfl, tyX7_ok, nmX7, fun h => absurd h (by decide)⟩
theorem fl_X7_13 : fFl RX7 13 7 1 := ⟨RX7, TX7, 19, tyX7, rfl, ic_X7, by decide, ftb_in 690 (by decide +kernel) rfl, tyX7_ok, nmX7, fun h => absurd h (by decide)⟩
theorem fl_X7_16 : fFl RX7 16 7 2 := ⟨RX7, TX7, 19, tyX7, rfl, ic_X7, by decide, ftb_in 691 (by decide +kernel) rfl, tyX7_ok, nmX7, fun h => absurd h (by decide)⟩
theorem fl_X7_87 : fFl RX7 87 7 3 := ⟨RX7, TX7, 19, tyX7, rfl, ic_X7, by decide, ftb_in 692 (by decide +kernel) rfl, tyX7_ok, nmX7, fun _ => Or.inl rfl⟩
theorem fl_X7_19 : fFl RX7 19 7 4 := ⟨RX7, TX7, 19, tyX7, rfl, ic_X7, by decide, ftb_in 693 (by decide +kernel) rfl, tyX7_ok, nmX7, fun h => absurd h (by decide)⟩
theorem fl_X7_133 : fFl RX7 133 7 5 := ⟨RX7, TX7, 19, tyX7, rfl, ic_X7, by decide, ftb_in 694 (by decide +kernel) rfl, tyX7_ok, nmX7, fun _ => Or.inl rfl⟩
theorem fl_X7_136 : fFl RX7 136 7 6 := ⟨RX7, TX7, 19, tyX7, rfl, ic_X7, by decide, ftb_in 695 (by decide +kernel) rfl, tyX7_ok, nmX7, fun _ => Or.inl rfl⟩
theorem fl_X7_22 : fFl RX7 22 7 7 := ⟨RX7, TX7, 19, tyX7, rfl, ic_X7, by decide, ftb_in 696 (by decide +kernel) rfl, tyX7_ok, nmX7, fun h => absurd h (by decide)⟩
theorem fl_X7_25 : fFl RX7 25 7 8 := ⟨RX7, TX7, 19, tyX7, rfl, ic_X7, by decide, ftb_in 697 (by decide +kernel) rfl, tyX7_ok, nmX7, fun h => absurd h (by decide)⟩
theorem fl_X7_108 : fFl RX7 108 7 9 := ⟨RX7, TX7, 19, tyX7, rfl, ic_X7, by decide, ftb_in 698 (by decide +kernel) rfl, tyX7_ok, nmX7, fun _ => Or.inl rfl⟩
theorem fl_X7_28 : fFl RX7 28 7 10 := ⟨RX7, TX7, 19, tyX7, rfl, ic_X7, by decide, ftb_in 699 (by decide +kernel) rfl, tyX7_ok, nmX7, fun h => absurd h (by decide)⟩
theorem fl_X7_31 : fFl RX7 31 7 11 := ⟨RX7, TX7, 19, tyX7, rfl, ic_X7, by decide, ftb_in 700 (by decide +kernel) rfl, tyX7_ok, nmX7, fun h => absurd h (by decide)⟩
theorem fl_X7_34 : fFl RX7 34 7 12 := ⟨RX7, TX7, 19, tyX7, rfl, ic_X7, by decide, ftb_in 701 (by decide +kernel) rfl, tyX7_ok, nmX7, fun h => absurd h (by decide)⟩
theorem fl_X7_37 : fFl RX7 37 7 13 := ⟨RX7, TX7, 19, tyX7, rfl, ic_X7, by decide, ftb_in 702 (by decide +kernel) rfl, tyX7_ok, nmX7, fun h => absurd h (by decide)⟩
theorem fl_X7_40 : fFl RX7 40 7 14 := ⟨RX7, TX7, 19, tyX7, rfl, ic_X7, by decide, ftb_in 703 (by decide +kernel) rfl, tyX7_ok, nmX7, fun _ => Or.inl rfl⟩
theorem fl_X7_44 : fFl RX7 44 7 15 := ⟨RX7, TX7, 19, tyX7, rfl, ic_X7, by decide, ftb_in 704 (by decide +kernel) rfl, tyX7_ok, nmX7, fun h => absurd h (by decide)⟩
theorem fl_X7_47 : fFl RX7 47 7 16 := ⟨RX7, TX7, 19, tyX7, rfl, ic_X7, by decide, ftb_in 705 (by decide +kernel) rfl, tyX7_ok, nmX7, fun h => absurd h (by decide)⟩
theorem fl_X7_50 : fFl RX7 50 7 17 := ⟨RX7, TX7, 19, tyX7, rfl, ic_X7, by decide, ftb_in 706 (by decide +kernel) rfl, tyX7_ok, nmX7, fun h => absurd h (by decide)⟩
theorem fl_X7_54 : fFl RX7 54 7 18 := ⟨RX7, TX7, 19, tyX7, rfl, ic_X7, by decide, ftb_in 707 (by decide +kernel) rfl, tyX7_ok, nmX7, fun h => absurd h (by decide)⟩
theorem sl_X6_68 : fSl RX6 68 Y_X6_isPrime 1 := ⟨ftb_in 280 (by decide +kernel) rfl, ftb_in 281 (by decide +kernel) rfl, ftb_in 59 (by decide +kernel) rfl, ftb_in 282 (by decide +kernel) rfl, by decide +kernel, by decide +kernel, by decide +kernel⟩
theorem vl_X6_79 : fVl RX6 79 RX3 Y_X3_leaveOver 1 := ⟨ftb_in 283 (by decide +kernel) rfl, ftb_in 284 (by decide +kernel) rfl, ftb_in 285 (by decide +kernel) rfl, ftb_in 61 (by decide +kernel) rfl, ftb_in 286 (by decide +kernel) rfl, rfl, by decide +kernel, by decide +kernel, by decide +kernel⟩
theorem vl_X6_83 : fVl RX6 83 RX0 Y_X0_forget 0 := ⟨ftb_in 291 (by decide +kernel) rfl, ftb_in 292 (by decide +kernel) rfl, ftb_in 293 (by decide +kernel) rfl, ftb_in 60 (by decide +kernel) rfl, ftb_in 294 (by decide +kernel) rfl, rfl, by decide +kernel, by decide +kernel, by decide +kernel⟩
theorem vl_X6_86 : fVl RX6 86 RX2 Y_X2_takeLetter 1 := ⟨ftb_in 299 (by decide +kernel) rfl, ftb_in 300 (by decide +kernel) rfl, ftb_in 301 (by decide +kernel) rfl, ftb_in 62 (by decide +kernel) rfl, ftb_in 302 (by decide +kernel) rfl, rfl, by decide +kernel, by decide +kernel, by decide +kernel⟩
theorem vl_X6_92 : fVl RX6 92 RX2 Y_X2_readMatrix 1 := ⟨ftb_in 307 (by decide +kernel) rfl, ftb_in 308 (by decide +kernel) rfl, ftb_in 309 (by decide +kernel) rfl, ftb_in 62 (by decide +kernel) rfl, ftb_in 310 (by decide +kernel) rfl, rfl, by decide +kernel, by decide +kernel, by decide +kernel⟩
theorem vl_X6_102 : fVl RX6 102 RX3 Y_X3_takeFrom 1 := ⟨ftb_in 346 (by decide +kernel) rfl, ftb_in 347 (by decide +kernel) rfl, ftb_in 348 (by decide +kernel) rfl, ftb_in 61 (by decide +kernel) rfl, ftb_in 349 (by decide +kernel) rfl, rfl, by decide +kernel, by decide +kernel, by decide +kernel⟩
theorem vl_X6_109 : fVl RX6 109 RX6 Y_X6_isPlace 1 := ⟨ftb_in 357 (by decide +kernel) rfl, ftb_in 359 (by decide +kernel) rfl, ftb_in 8 (by decide +kernel) rfl, ftb_in 59 (by decide +kernel) rfl, ftb_in 360 (by decide +kernel) rfl, rfl, by decide +kernel, by decide +kernel, by decide +kernel⟩
theorem vl_X6_115 : fVl RX6 115 RX6 Y_X6_isWithin 1 := ⟨ftb_in 366 (by decide +kernel) rfl, ftb_in 368 (by decide +kernel) rfl, ftb_in 9 (by decide +kernel) rfl, ftb_in 59 (by decide +kernel) rfl, ftb_in 369 (by decide +kernel) rfl, rfl, by decide +kernel, by decide +kernel, by decide +kernel⟩
theorem vl_X6_124 : fVl RX6 124 RX3 Y_X3_cellAt 4 := ⟨ftb_in 374 (by decide +kernel) rfl, ftb_in 375 (by decide +kernel) rfl, ftb_in 376 (by decide +kernel) rfl, ftb_in 61 (by decide +kernel) rfl, ftb_in 377 (by decide +kernel) rfl, rfl, by decide +kernel, by decide +kernel, by decide +kernel⟩
theorem vl_X6_128 : fVl RX6 128 RX6 Y_X6_rankOfMatrix 0 := ⟨ftb_in 389 (by decide +kernel) rfl, ftb_in 391 (by decide +kernel) rfl, ftb_in 11 (by decide +kernel) rfl, ftb_in 59 (by decide +kernel) rfl, ftb_in 392 (by decide +kernel) rfl, rfl, by decide +kernel, by decide +kernel, by decide +kernel⟩
theorem vl_X6_132 : fVl RX6 132 RX6 Y_X6_singularCorners 0 := ⟨ftb_in 422 (by decide +kernel) rfl, ftb_in 424 (by decide +kernel) rfl, ftb_in 15 (by decide +kernel) rfl, ftb_in 59 (by decide +kernel) rfl, ftb_in 425 (by decide +kernel) rfl, rfl, by decide +kernel, by decide +kernel, by decide +kernel⟩
theorem vl_X6_135 : fVl RX6 135 RX6 Y_X6_wholeCorner 0 := ⟨ftb_in 434 (by decide +kernel) rfl, ftb_in 436 (by decide +kernel) rfl, ftb_in 17 (by decide +kernel) rfl, ftb_in 59 (by decide +kernel) rfl, ftb_in 437 (by decide +kernel) rfl, rfl, by decide +kernel, by decide +kernel, by decide +kernel⟩
theorem vl_X6_138 : fVl RX6 138 RX6 Y_X6_findLaw 0 := ⟨ftb_in 438 (by decide +kernel) rfl, ftb_in 440 (by decide +kernel) rfl, ftb_in 18 (by decide +kernel) rfl, ftb_in 59 (by decide +kernel) rfl, ftb_in 441 (by decide +kernel) rfl, rfl, by decide +kernel, by decide +kernel, by decide +kernel⟩
theorem vl_X6_144 : fVl RX6 144 RX6 Y_X6_isNumber 1 := ⟨ftb_in 451 (by decide +kernel) rfl, ftb_in 453 (by decide +kernel) rfl, ftb_in 20 (by decide +kernel) rfl, ftb_in 59 (by decide +kernel) rfl, ftb_in 454 (by decide +kernel) rfl, rfl, by decide +kernel, by decide +kernel, by decide +kernel⟩
theorem vl_X6_148 : fVl RX6 148 RX0 Y_X0_remember 0 := ⟨ftb_in 455 (by decide +kernel) rfl, ftb_in 456 (by decide +kernel) rfl, ftb_in 457 (by decide +kernel) rfl, ftb_in 60 (by decide +kernel) rfl, ftb_in 458 (by decide +kernel) rfl, rfl, by decide +kernel, by decide +kernel, by decide +kernel⟩
theorem vl_X6_151 : fVl RX6 151 RX3 Y_X3_addBorder 0 := ⟨ftb_in 472 (by decide +kernel) rfl, ftb_in 473 (by decide +kernel) rfl, ftb_in 474 (by decide +kernel) rfl, ftb_in 61 (by decide +kernel) rfl, ftb_in 475 (by decide +kernel) rfl, rfl, by decide +kernel, by decide +kernel, by decide +kernel⟩
theorem vl_X6_154 : fVl RX6 154 RX3 Y_X3_dropBorder 0 := ⟨ftb_in 480 (by decide +kernel) rfl, ftb_in 481 (by decide +kernel) rfl, ftb_in 482 (by decide +kernel) rfl, ftb_in 61 (by decide +kernel) rfl, ftb_in 483 (by decide +kernel) rfl, rfl, by decide +kernel, by decide +kernel, by decide +kernel⟩
theorem vl_X6_157 : fVl RX6 157 RX3 Y_X3_reverseRow 0 := ⟨ftb_in 488 (by decide +kernel) rfl, ftb_in 489 (by decide +kernel) rfl, ftb_in 490 (by decide +kernel) rfl, ftb_in 61 (by decide +kernel) rfl, ftb_in 491 (by decide +kernel) rfl, rfl, by decide +kernel, by decide +kernel, by decide +kernel⟩
theorem vl_X6_160 : fVl RX6 160 RX3 Y_X3_driftOnce 1 := ⟨ftb_in 496 (by decide +kernel) rfl, ftb_in 497 (by decide +kernel) rfl, ftb_in 498 (by decide +kernel) rfl, ftb_in 61 (by decide +kernel) rfl, ftb_in 499 (by decide +kernel) rfl, rfl, by decide +kernel, by decide +kernel, by decide +kernel⟩
theorem vl_X6_163 : fVl RX6 163 RX0 Y_X0_stepBack 0 := ⟨ftb_in 508 (by decide +kernel) rfl, ftb_in 509 (by decide +kernel) rfl, ftb_in 510 (by decide +kernel) rfl, ftb_in 60 (by decide +kernel) rfl, ftb_in 511 (by decide +kernel) rfl, rfl, by decide +kernel, by decide +kernel, by decide +kernel⟩
theorem vl_X6_167 : fVl RX6 167 RX6 Y_X6_cornerOf 2 := ⟨ftb_in 426 (by decide +kernel) rfl, ftb_in 428 (by decide +kernel) rfl, ftb_in 16 (by decide +kernel) rfl, ftb_in 59 (by decide +kernel) rfl, ftb_in 429 (by decide +kernel) rfl, rfl, by decide +kernel, by decide +kernel, by decide +kernel⟩
theorem vl_X6_173 : fVl RX6 173 RX6 Y_X6_solveMatrix 0 := ⟨ftb_in 529 (by decide +kernel) rfl, ftb_in 531 (by decide +kernel) rfl, ftb_in 21 (by decide +kernel) rfl, ftb_in 59 (by decide +kernel) rfl, ftb_in 532 (by decide +kernel) rfl, rfl, by decide +kernel, by decide +kernel, by decide +kernel⟩
theorem vl_X6_182 : fVl RX6 182 RX1 Y_X1_fill 3 := ⟨ftb_in 393 (by decide +kernel) rfl, ftb_in 394 (by decide +kernel) rfl, ftb_in 395 (by decide +kernel) rfl, ftb_in 63 (by decide +kernel) rfl, ftb_in 396 (by decide +kernel) rfl, rfl, by decide +kernel, by decide +kernel, by decide +kernel⟩
theorem vl_X6_190 : fVl RX6 190 RX1 Y_X1_solveLeast 2 := ⟨ftb_in 406 (by decide +kernel) rfl, ftb_in 407 (by decide +kernel) rfl, ftb_in 408 (by decide +kernel) rfl, ftb_in 63 (by decide +kernel) rfl, ftb_in 409 (by decide +kernel) rfl, rfl, by decide +kernel, by decide +kernel, by decide +kernel⟩
theorem sl_X6_194 : fSl RX6 194 Y_X6_isHalf 1 := ⟨ftb_in 545 (by decide +kernel) rfl, ftb_in 546 (by decide +kernel) rfl, ftb_in 59 (by decide +kernel) rfl, ftb_in 547 (by decide +kernel) rfl, by decide +kernel, by decide +kernel, by decide +kernel⟩
theorem vl_X6_197 : fVl RX6 197 RX3 Y_X3_rowLength 0 := ⟨ftb_in 361 (by decide +kernel) rfl, ftb_in 288 (by decide +kernel) rfl, ftb_in 289 (by decide +kernel) rfl, ftb_in 61 (by decide +kernel) rfl, ftb_in 290 (by decide +kernel) rfl, rfl, by decide +kernel, by decide +kernel, by decide +kernel⟩
theorem vl_X6_200 : fVl RX6 200 RX6 Y_X6_leastMender 1 := ⟨ftb_in 552 (by decide +kernel) rfl, ftb_in 554 (by decide +kernel) rfl, ftb_in 22 (by decide +kernel) rfl, ftb_in 59 (by decide +kernel) rfl, ftb_in 555 (by decide +kernel) rfl, rfl, by decide +kernel, by decide +kernel, by decide +kernel⟩
theorem vl_X6_209 : fVl RX6 209 RX5 Y_X5_isOf 2 := ⟨ftb_in 569 (by decide +kernel) rfl, ftb_in 570 (by decide +kernel) rfl, ftb_in 571 (by decide +kernel) rfl, ftb_in 64 (by decide +kernel) rfl, ftb_in 572 (by decide +kernel) rfl, rfl, by decide +kernel, by decide +kernel, by decide +kernel⟩
theorem vl_X6_213 : fVl RX6 213 RX6 Y_X6_countWipes 0 := ⟨ftb_in 574 (by decide +kernel) rfl, ftb_in 576 (by decide +kernel) rfl, ftb_in 23 (by decide +kernel) rfl, ftb_in 59 (by decide +kernel) rfl, ftb_in 577 (by decide +kernel) rfl, rfl, by decide +kernel, by decide +kernel, by decide +kernel⟩
theorem vl_X6_216 : fVl RX6 216 RX5 Y_X5_weighted 1 := ⟨ftb_in 589 (by decide +kernel) rfl, ftb_in 590 (by decide +kernel) rfl, ftb_in 591 (by decide +kernel) rfl, ftb_in 64 (by decide +kernel) rfl, ftb_in 592 (by decide +kernel) rfl, rfl, by decide +kernel, by decide +kernel, by decide +kernel⟩
theorem sl_X6_225 : fSl RX6 225 Y_X6_power 2 := ⟨ftb_in 533 (by decide +kernel) rfl, ftb_in 534 (by decide +kernel) rfl, ftb_in 59 (by decide +kernel) rfl, ftb_in 535 (by decide +kernel) rfl, by decide +kernel, by decide +kernel, by decide +kernel⟩
theorem sl_X6_229 : fSl RX6 229 Y_X6_greatestShared 2 := ⟨ftb_in 595 (by decide +kernel) rfl, ftb_in 596 (by decide +kernel) rfl, ftb_in 59 (by decide +kernel) rfl, ftb_in 597 (by decide +kernel) rfl, by decide +kernel, by decide +kernel, by decide +kernel⟩
theorem vl_X6_233 : fVl RX6 233 RX0 Y_X0_takeFrom 1 := ⟨ftb_in 602 (by decide +kernel) rfl, ftb_in 603 (by decide +kernel) rfl, ftb_in 604 (by decide +kernel) rfl, ftb_in 60 (by decide +kernel) rfl, ftb_in 605 (by decide +kernel) rfl, rfl, by decide +kernel, by decide +kernel, by decide +kernel⟩
theorem vl_X6_236 : fVl RX6 236 RX6 Y_X6_refusalOf 4 := ⟨ftb_in 614 (by decide +kernel) rfl, ftb_in 616 (by decide +kernel) rfl, ftb_in 24 (by decide +kernel) rfl, ftb_in 59 (by decide +kernel) rfl, ftb_in 617 (by decide +kernel) rfl, rfl, by decide +kernel, by decide +kernel, by decide +kernel⟩
theorem vl_X6_239 : fVl RX6 239 RX6 Y_X6_readNumbers 3 := ⟨ftb_in 632 (by decide +kernel) rfl, ftb_in 634 (by decide +kernel) rfl, ftb_in 25 (by decide +kernel) rfl, ftb_in 59 (by decide +kernel) rfl, ftb_in 635 (by decide +kernel) rfl, rfl, by decide +kernel, by decide +kernel, by decide +kernel⟩
theorem vl_X6_243 : fVl RX6 243 RX6 Y_X6_comesBy 1 := ⟨ftb_in 636 (by decide +kernel) rfl, ftb_in 638 (by decide +kernel) rfl, ftb_in 26 (by decide +kernel) rfl, ftb_in 59 (by decide +kernel) rfl, ftb_in 639 (by decide +kernel) rfl, rfl, by decide +kernel, by decide +kernel, by decide +kernel⟩
theorem vl_X6_250 : fVl RX6 250 RX6 Y_X6_rowTimesGiven 2 := ⟨ftb_in 640 (by decide +kernel) rfl, ftb_in 642 (by decide +kernel) rfl, ftb_in 27 (by decide +kernel) rfl, ftb_in 59 (by decide +kernel) rfl, ftb_in 643 (by decide +kernel) rfl, rfl, by decide +kernel, by decide +kernel, by decide +kernel⟩
theorem sl_X6_260 : fSl RX6 260 Y_X6_isSheet 1 := ⟨ftb_in 618 (by decide +kernel) rfl, ftb_in 619 (by decide +kernel) rfl, ftb_in 59 (by decide +kernel) rfl, ftb_in 620 (by decide +kernel) rfl, by decide +kernel, by decide +kernel, by decide +kernel⟩
theorem sl_X6_263 : fSl RX6 263 Y_X6_isLane 1 := ⟨ftb_in 621 (by decide +kernel) rfl, ftb_in 622 (by decide +kernel) rfl, ftb_in 59 (by decide +kernel) rfl, ftb_in 623 (by decide +kernel) rfl, by decide +kernel, by decide +kernel, by decide +kernel⟩
theorem vl_X6_266 : fVl RX6 266 RX4 Y_X4_begin 2 := ⟨ftb_in 660 (by decide +kernel) rfl, ftb_in 661 (by decide +kernel) rfl, ftb_in 662 (by decide +kernel) rfl, ftb_in 65 (by decide +kernel) rfl, ftb_in 663 (by decide +kernel) rfl, rfl, by decide +kernel, by decide +kernel, by decide +kernel⟩
theorem vl_X6_270 : fVl RX6 270 RX4 Y_X4_isMissing 0 := ⟨ftb_in 624 (by decide +kernel) rfl, ftb_in 625 (by decide +kernel) rfl, ftb_in 626 (by decide +kernel) rfl, ftb_in 65 (by decide +kernel) rfl, ftb_in 627 (by decide +kernel) rfl, rfl, by decide +kernel, by decide +kernel, by decide +kernel⟩
theorem vl_X6_274 : fVl RX6 274 RX4 Y_X4_lose 0 := ⟨ftb_in 668 (by decide +kernel) rfl, ftb_in 669 (by decide +kernel) rfl, ftb_in 670 (by decide +kernel) rfl, ftb_in 65 (by decide +kernel) rfl, ftb_in 671 (by decide +kernel) rfl, rfl, by decide +kernel, by decide +kernel, by decide +kernel⟩
theorem sl_X6_277 : fSl RX6 277 Y_X6_lowestBits 2 := ⟨ftb_in 676 (by decide +kernel) rfl, ftb_in 677 (by decide +kernel) rfl, ftb_in 59 (by decide +kernel) rfl, ftb_in 678 (by decide +kernel) rfl, by decide +kernel, by decide +kernel, by decide +kernel⟩
theorem vl_X6_284 : fVl RX6 284 RX4 Y_X4_holds 2 := ⟨ftb_in 628 (by decide +kernel) rfl, ftb_in 629 (by decide +kernel) rfl, ftb_in 630 (by decide +kernel) rfl, ftb_in 65 (by decide +kernel) rfl, ftb_in 631 (by decide +kernel) rfl, rfl, by decide +kernel, by decide +kernel, by decide +kernel⟩
theorem vl_X6_288 : fVl RX6 288 RX1 Y_X1_determinant 1 := ⟨ftb_in 430 (by decide +kernel) rfl, ftb_in 431 (by decide +kernel) rfl, ftb_in 432 (by decide +kernel) rfl, ftb_in 63 (by decide +kernel) rfl, ftb_in 433 (by decide +kernel) rfl, rfl, by decide +kernel, by decide +kernel, by decide +kernel⟩
theorem vl_X6_291 : fVl RX6 291 RX1 Y_X1_clearColumn 2 := ⟨ftb_in 402 (by decide +kernel) rfl, ftb_in 403 (by decide +kernel) rfl, ftb_in 404 (by decide +kernel) rfl, ftb_in 63 (by decide +kernel) rfl, ftb_in 405 (by decide +kernel) rfl, rfl, by decide +kernel, by decide +kernel, by decide +kernel⟩
theorem vl_X6_294 : fVl RX6 294 RX6 Y_X6_fitsLaw 1 := ⟨ftb_in 442 (by decide +kernel) rfl, ftb_in 444 (by decide +kernel) rfl, ftb_in 19 (by decide +kernel) rfl, ftb_in 59 (by decide +kernel) rfl, ftb_in 445 (by decide +kernel) rfl, rfl, by decide +kernel, by decide +kernel, by decide +kernel⟩
theorem vl_X6_297 : fVl RX6 297 RX1 Y_X1_usePrime 1 := ⟨ftb_in 446 (by decide +kernel) rfl, ftb_in 398 (by decide +kernel) rfl, ftb_in 399 (by decide +kernel) rfl, ftb_in 63 (by decide +kernel) rfl, ftb_in 400 (by decide +kernel) rfl, rfl, by decide +kernel, by decide +kernel, by decide +kernel⟩
theorem vl_X6_300 : fVl RX6 300 RX5 Y_X5_begin 2 := ⟨ftb_in 578 (by decide +kernel) rfl, ftb_in 579 (by decide +kernel) rfl, ftb_in 580 (by decide +kernel) rfl, ftb_in 64 (by decide +kernel) rfl, ftb_in 581 (by decide +kernel) rfl, rfl, by decide +kernel, by decide +kernel, by decide +kernel⟩
theorem sl_X7_57 : fSl RX7 57 Y_X7_in 3 := ⟨ftb_in 756 (by decide +kernel) rfl, ftb_in 757 (by decide +kernel) rfl, ftb_in 66 (by decide +kernel) rfl, ftb_in 758 (by decide +kernel) rfl, by decide +kernel, by decide +kernel, by decide +kernel⟩
theorem vl_X7_61 : fVl RX7 61 RX7 Y_X7_lines 0 := ⟨ftb_in 767 (by decide +kernel) rfl, ftb_in 769 (by decide +kernel) rfl, ftb_in 29 (by decide +kernel) rfl, ftb_in 66 (by decide +kernel) rfl, ftb_in 770 (by decide +kernel) rfl, rfl, by decide +kernel, by decide +kernel, by decide +kernel⟩
theorem vl_X7_65 : fVl RX7 65 RX7 Y_X7_entryBy 3 := ⟨ftb_in 783 (by decide +kernel) rfl, ftb_in 785 (by decide +kernel) rfl, ftb_in 31 (by decide +kernel) rfl, ftb_in 66 (by decide +kernel) rfl, ftb_in 786 (by decide +kernel) rfl, rfl, by decide +kernel, by decide +kernel, by decide +kernel⟩
theorem vl_X7_69 : fVl RX7 69 RX7 Y_X7_fills 2 := ⟨ftb_in 799 (by decide +kernel) rfl, ftb_in 801 (by decide +kernel) rfl, ftb_in 34 (by decide +kernel) rfl, ftb_in 66 (by decide +kernel) rfl, ftb_in 802 (by decide +kernel) rfl, rfl, by decide +kernel, by decide +kernel, by decide +kernel⟩
theorem vl_X7_73 : fVl RX7 73 RX7 Y_X7_pivot 3 := ⟨ftb_in 807 (by decide +kernel) rfl, ftb_in 809 (by decide +kernel) rfl, ftb_in 36 (by decide +kernel) rfl, ftb_in 66 (by decide +kernel) rfl, ftb_in 810 (by decide +kernel) rfl, rfl, by decide +kernel, by decide +kernel, by decide +kernel⟩
theorem vl_X7_76 : fVl RX7 76 RX7 Y_X7_swaps 2 := ⟨ftb_in 811 (by decide +kernel) rfl, ftb_in 813 (by decide +kernel) rfl, ftb_in 37 (by decide +kernel) rfl, ftb_in 66 (by decide +kernel) rfl, ftb_in 814 (by decide +kernel) rfl, rfl, by decide +kernel, by decide +kernel, by decide +kernel⟩
theorem vl_X7_79 : fVl RX7 79 RX7 Y_X7_inverseOf 1 := ⟨ftb_in 815 (by decide +kernel) rfl, ftb_in 817 (by decide +kernel) rfl, ftb_in 38 (by decide +kernel) rfl, ftb_in 66 (by decide +kernel) rfl, ftb_in 818 (by decide +kernel) rfl, rfl, by decide +kernel, by decide +kernel, by decide +kernel⟩
theorem vl_X7_83 : fVl RX7 83 RX7 Y_X7_takes 3 := ⟨ftb_in 823 (by decide +kernel) rfl, ftb_in 825 (by decide +kernel) rfl, ftb_in 40 (by decide +kernel) rfl, ftb_in 66 (by decide +kernel) rfl, ftb_in 826 (by decide +kernel) rfl, rfl, by decide +kernel, by decide +kernel, by decide +kernel⟩
theorem vl_X7_90 : fVl RX7 90 RX7 Y_X7_multiplies 2 := ⟨ftb_in 819 (by decide +kernel) rfl, ftb_in 821 (by decide +kernel) rfl, ftb_in 39 (by decide +kernel) rfl, ftb_in 66 (by decide +kernel) rfl, ftb_in 822 (by decide +kernel) rfl, rfl, by decide +kernel, by decide +kernel, by decide +kernel⟩
theorem vl_X7_93 : fVl RX7 93 RX7 Y_X7_worksOut 2 := ⟨ftb_in 803 (by decide +kernel) rfl, ftb_in 805 (by decide +kernel) rfl, ftb_in 35 (by decide +kernel) rfl, ftb_in 66 (by decide +kernel) rfl, ftb_in 806 (by decide +kernel) rfl, rfl, by decide +kernel, by decide +kernel, by decide +kernel⟩
theorem vl_X7_97 : fVl RX7 97 RX7 Y_X7_solves 1 := ⟨ftb_in 795 (by decide +kernel) rfl, ftb_in 797 (by decide +kernel) rfl, ftb_in 33 (by decide +kernel) rfl, ftb_in 66 (by decide +kernel) rfl, ftb_in 798 (by decide +kernel) rfl, rfl, by decide +kernel, by decide +kernel, by decide +kernel⟩
theorem sl_X7_105 : fSl RX7 105 Y_X7_isPrime 1 := ⟨ftb_in 751 (by decide +kernel) rfl, ftb_in 752 (by decide +kernel) rfl, ftb_in 66 (by decide +kernel) rfl, ftb_in 753 (by decide +kernel) rfl, by decide +kernel, by decide +kernel, by decide +kernel⟩
theorem vl_X7_111 : fVl RX7 111 RX7 Y_X7_isLine 1 := ⟨ftb_in 763 (by decide +kernel) rfl, ftb_in 765 (by decide +kernel) rfl, ftb_in 28 (by decide +kernel) rfl, ftb_in 66 (by decide +kernel) rfl, ftb_in 766 (by decide +kernel) rfl, rfl, by decide +kernel, by decide +kernel, by decide +kernel⟩
theorem vl_X7_114 : fVl RX7 114 RX7 Y_X7_isRow 1 := ⟨ftb_in 775 (by decide +kernel) rfl, ftb_in 777 (by decide +kernel) rfl, ftb_in 30 (by decide +kernel) rfl, ftb_in 66 (by decide +kernel) rfl, ftb_in 778 (by decide +kernel) rfl, rfl, by decide +kernel, by decide +kernel, by decide +kernel⟩
theorem vl_X7_117 : fVl RX7 117 RX7 Y_X7_cornerOf 1 := ⟨ftb_in 831 (by decide +kernel) rfl, ftb_in 833 (by decide +kernel) rfl, ftb_in 42 (by decide +kernel) rfl, ftb_in 66 (by decide +kernel) rfl, ftb_in 834 (by decide +kernel) rfl, rfl, by decide +kernel, by decide +kernel, by decide +kernel⟩
theorem vl_X7_120 : fVl RX7 120 RX7 Y_X7_rankOf 0 := ⟨ftb_in 791 (by decide +kernel) rfl, ftb_in 793 (by decide +kernel) rfl, ftb_in 32 (by decide +kernel) rfl, ftb_in 66 (by decide +kernel) rfl, ftb_in 794 (by decide +kernel) rfl, rfl, by decide +kernel, by decide +kernel, by decide +kernel⟩
theorem vl_X7_123 : fVl RX7 123 RX7 Y_X7_singular 0 := ⟨ftb_in 827 (by decide +kernel) rfl, ftb_in 829 (by decide +kernel) rfl, ftb_in 41 (by decide +kernel) rfl, ftb_in 66 (by decide +kernel) rfl, ftb_in 830 (by decide +kernel) rfl, rfl, by decide +kernel, by decide +kernel, by decide +kernel⟩
theorem vl_X7_126 : fVl RX7 126 RX7 Y_X7_law 0 := ⟨ftb_in 835 (by decide +kernel) rfl, ftb_in 837 (by decide +kernel) rfl, ftb_in 43 (by decide +kernel) rfl, ftb_in 66 (by decide +kernel) rfl, ftb_in 838 (by decide +kernel) rfl, rfl, by decide +kernel, by decide +kernel, by decide +kernel⟩
theorem vl_X7_139 : fVl RX7 139 RX7 Y_X7_here 0 := ⟨ftb_in 857 (by decide +kernel) rfl, ftb_in 859 (by decide +kernel) rfl, ftb_in 46 (by decide +kernel) rfl, ftb_in 66 (by decide +kernel) rfl, ftb_in 860 (by decide +kernel) rfl, rfl, by decide +kernel, by decide +kernel, by decide +kernel⟩
theorem vl_X7_146 : fVl RX7 146 RX7 Y_X7_isNumber 1 := ⟨ftb_in 878 (by decide +kernel) rfl, ftb_in 880 (by decide +kernel) rfl, ftb_in 50 (by decide +kernel) rfl, ftb_in 66 (by decide +kernel) rfl, ftb_in 881 (by decide +kernel) rfl, rfl, by decide +kernel, by decide +kernel, by decide +kernel⟩
theorem vl_X7_150 : fVl RX7 150 RX7 Y_X7_number 0 := ⟨ftb_in 872 (by decide +kernel) rfl, ftb_in 874 (by decide +kernel) rfl, ftb_in 49 (by decide +kernel) rfl, ftb_in 66 (by decide +kernel) rfl, ftb_in 875 (by decide +kernel) rfl, rfl, by decide +kernel, by decide +kernel, by decide +kernel⟩
theorem vl_X7_153 : fVl RX7 153 RX7 Y_X7_has 1 := ⟨ftb_in 882 (by decide +kernel) rfl, ftb_in 884 (by decide +kernel) rfl, ftb_in 51 (by decide +kernel) rfl, ftb_in 66 (by decide +kernel) rfl, ftb_in 885 (by decide +kernel) rfl, rfl, by decide +kernel, by decide +kernel, by decide +kernel⟩
theorem sl_X7_156 : fSl RX7 156 Y_X7_kindBy 1 := ⟨ftb_in 861 (by decide +kernel) rfl, ftb_in 862 (by decide +kernel) rfl, ftb_in 66 (by decide +kernel) rfl, ftb_in 863 (by decide +kernel) rfl, by decide +kernel, by decide +kernel, by decide +kernel⟩
theorem vl_X7_159 : fVl RX7 159 RX7 Y_X7_fault 0 := ⟨ftb_in 864 (by decide +kernel) rfl, ftb_in 866 (by decide +kernel) rfl, ftb_in 47 (by decide +kernel) rfl, ftb_in 66 (by decide +kernel) rfl, ftb_in 867 (by decide +kernel) rfl, rfl, by decide +kernel, by decide +kernel, by decide +kernel⟩
theorem vl_X7_162 : fVl RX7 162 RX7 Y_X7_numbers 2 := ⟨ftb_in 868 (by decide +kernel) rfl, ftb_in 870 (by decide +kernel) rfl, ftb_in 48 (by decide +kernel) rfl, ftb_in 66 (by decide +kernel) rfl, ftb_in 871 (by decide +kernel) rfl, rfl, by decide +kernel, by decide +kernel, by decide +kernel⟩
theorem vl_X7_166 : fVl RX7 166 RX7 Y_X7_notes 0 := ⟨ftb_in 890 (by decide +kernel) rfl, ftb_in 892 (by decide +kernel) rfl, ftb_in 52 (by decide +kernel) rfl, ftb_in 66 (by decide +kernel) rfl, ftb_in 893 (by decide +kernel) rfl, rfl, by decide +kernel, by decide +kernel, by decide +kernel⟩
theorem vl_X7_182 : fVl RX7 182 RX7 Y_X7_ways 0 := ⟨ftb_in 945 (by decide +kernel) rfl, ftb_in 947 (by decide +kernel) rfl, ftb_in 53 (by decide +kernel) rfl, ftb_in 66 (by decide +kernel) rfl, ftb_in 948 (by decide +kernel) rfl, rfl, by decide +kernel, by decide +kernel, by decide +kernel⟩
theorem vl_X7_188 : fVl RX7 188 RX7 Y_X7_least 2 := ⟨ftb_in 843 (by decide +kernel) rfl, ftb_in 845 (by decide +kernel) rfl, ftb_in 45 (by decide +kernel) rfl, ftb_in 66 (by decide +kernel) rfl, ftb_in 846 (by decide +kernel) rfl, rfl, by decide +kernel, by decide +kernel, by decide +kernel⟩
theorem vl_X7_191 : fVl RX7 191 RX7 Y_X7_mends 1 := ⟨ftb_in 962 (by decide +kernel) rfl, ftb_in 964 (by decide +kernel) rfl, ftb_in 54 (by decide +kernel) rfl, ftb_in 66 (by decide +kernel) rfl, ftb_in 965 (by decide +kernel) rfl, rfl, by decide +kernel, by decide +kernel, by decide +kernel⟩
theorem vl_X7_194 : fVl RX7 194 RX7 Y_X7_isLaw 1 := ⟨ftb_in 839 (by decide +kernel) rfl, ftb_in 841 (by decide +kernel) rfl, ftb_in 44 (by decide +kernel) rfl, ftb_in 66 (by decide +kernel) rfl, ftb_in 842 (by decide +kernel) rfl, rfl, by decide +kernel, by decide +kernel, by decide +kernel⟩
theorem sl_X7_203 : fSl RX7 203 Y_X7_isSheet 1 := ⟨ftb_in 992 (by decide +kernel) rfl, ftb_in 993 (by decide +kernel) rfl, ftb_in 66 (by decide +kernel) rfl, ftb_in 994 (by decide +kernel) rfl, by decide +kernel, by decide +kernel, by decide +kernel⟩
theorem vl_X7_206 : fVl RX7 206 RX7 Y_X7_why 4 := ⟨ftb_in 1004 (by decide +kernel) rfl, ftb_in 1006 (by decide +kernel) rfl, ftb_in 55 (by decide +kernel) rfl, ftb_in 66 (by decide +kernel) rfl, ftb_in 1007 (by decide +kernel) rfl, rfl, by decide +kernel, by decide +kernel, by decide +kernel⟩
theorem sl_X7_210 : fSl RX7 210 Y_X7_cutTo 2 := ⟨ftb_in 1008 (by decide +kernel) rfl, ftb_in 1009 (by decide +kernel) rfl, ftb_in 66 (by decide +kernel) rfl, ftb_in 1010 (by decide +kernel) rfl, by decide +kernel, by decide +kernel, by decide +kernel⟩
theorem vl_X7_214 : fVl RX7 214 RX7 Y_X7_areNumbers 2 := ⟨ftb_in 1019 (by decide +kernel) rfl, ftb_in 1021 (by decide +kernel) rfl, ftb_in 56 (by decide +kernel) rfl, ftb_in 66 (by decide +kernel) rfl, ftb_in 1022 (by decide +kernel) rfl, rfl, by decide +kernel, by decide +kernel, by decide +kernel⟩
theorem vl_X7_217 : fVl RX7 217 RX7 Y_X7_comes 3 := ⟨ftb_in 1023 (by decide +kernel) rfl, ftb_in 1025 (by decide +kernel) rfl, ftb_in 57 (by decide +kernel) rfl, ftb_in 66 (by decide +kernel) rfl, ftb_in 1026 (by decide +kernel) rfl, rfl, by decide +kernel, by decide +kernel, by decide +kernel⟩
theorem vl_X0_32 : fVl RX0 32 RX3 Y_X3_takeFrom 1 := ⟨ftb_in 459 (by decide +kernel) rfl, ftb_in 347 (by decide +kernel) rfl, ftb_in 348 (by decide +kernel) rfl, ftb_in 61 (by decide +kernel) rfl, ftb_in 349 (by decide +kernel) rfl, rfl, by decide +kernel, by decide +kernel, by decide +kernel⟩
theorem vl_X1_27 : fVl RX1 27 RX1 Y_X1_usePrime 1 := ⟨ftb_in 397 (by decide +kernel) rfl, ftb_in 398 (by decide +kernel) rfl, ftb_in 399 (by decide +kernel) rfl, ftb_in 63 (by decide +kernel) rfl, ftb_in 400 (by decide +kernel) rfl, rfl, by decide +kernel, by decide +kernel, by decide +kernel⟩
theorem vl_X1_36 : fVl RX1 36 RX3 Y_X3_cellAt 4 := ⟨ftb_in 401 (by decide +kernel) rfl, ftb_in 375 (by decide +kernel) rfl, ftb_in 376 (by decide +kernel) rfl, ftb_in 61 (by decide +kernel) rfl, ftb_in 377 (by decide +kernel) rfl, rfl, by decide +kernel, by decide +kernel, by decide +kernel⟩
theorem vl_X1_40 : fVl RX1 40 RX1 Y_X1_findPivot 4 := ⟨ftb_in 410 (by decide +kernel) rfl, ftb_in 412 (by decide +kernel) rfl, ftb_in 12 (by decide +kernel) rfl, ftb_in 63 (by decide +kernel) rfl, ftb_in 413 (by decide +kernel) rfl, rfl, by decide +kernel, by decide +kernel, by decide +kernel⟩
theorem vl_X1_44 : fVl RX1 44 RX1 Y_X1_takeAway 5 := ⟨ftb_in 414 (by decide +kernel) rfl, ftb_in 416 (by decide +kernel) rfl, ftb_in 13 (by decide +kernel) rfl, ftb_in 63 (by decide +kernel) rfl, ftb_in 417 (by decide +kernel) rfl, rfl, by decide +kernel, by decide +kernel, by decide +kernel⟩
theorem vl_X1_48 : fVl RX1 48 RX1 Y_X1_clearOthers 4 := ⟨ftb_in 418 (by decide +kernel) rfl, ftb_in 420 (by decide +kernel) rfl, ftb_in 14 (by decide +kernel) rfl, ftb_in 63 (by decide +kernel) rfl, ftb_in 421 (by decide +kernel) rfl, rfl, by decide +kernel, by decide +kernel, by decide +kernel⟩
theorem vl_X2_35 : fVl RX2 35 RX2 Y_X2_skipBlanks 0 := ⟨ftb_in 311 (by decide +kernel) rfl, ftb_in 313 (by decide +kernel) rfl, ftb_in 0 (by decide +kernel) rfl, ftb_in 62 (by decide +kernel) rfl, ftb_in 314 (by decide +kernel) rfl, rfl, by decide +kernel, by decide +kernel, by decide +kernel⟩
theorem vl_X2_38 : fVl RX2 38 RX2 Y_X2_letterHere 0 := ⟨ftb_in 315 (by decide +kernel) rfl, ftb_in 317 (by decide +kernel) rfl, ftb_in 1 (by decide +kernel) rfl, ftb_in 62 (by decide +kernel) rfl, ftb_in 318 (by decide +kernel) rfl, rfl, by decide +kernel, by decide +kernel, by decide +kernel⟩
theorem sl_X2_42 : fSl RX2 42 Y_X2_kindOf 1 := ⟨ftb_in 319 (by decide +kernel) rfl, ftb_in 320 (by decide +kernel) rfl, ftb_in 62 (by decide +kernel) rfl, ftb_in 321 (by decide +kernel) rfl, by decide +kernel, by decide +kernel, by decide +kernel⟩
theorem vl_X2_49 : fVl RX2 49 RX2 Y_X2_faultHere 0 := ⟨ftb_in 322 (by decide +kernel) rfl, ftb_in 324 (by decide +kernel) rfl, ftb_in 2 (by decide +kernel) rfl, ftb_in 62 (by decide +kernel) rfl, ftb_in 325 (by decide +kernel) rfl, rfl, by decide +kernel, by decide +kernel, by decide +kernel⟩
theorem vl_X2_52 : fVl RX2 52 RX2 Y_X2_readRow 0 := ⟨ftb_in 326 (by decide +kernel) rfl, ftb_in 328 (by decide +kernel) rfl, ftb_in 3 (by decide +kernel) rfl, ftb_in 62 (by decide +kernel) rfl, ftb_in 329 (by decide +kernel) rfl, rfl, by decide +kernel, by decide +kernel, by decide +kernel⟩
theorem vl_X2_55 : fVl RX2 55 RX2 Y_X2_clearSide 0 := ⟨ftb_in 338 (by decide +kernel) rfl, ftb_in 340 (by decide +kernel) rfl, ftb_in 6 (by decide +kernel) rfl, ftb_in 62 (by decide +kernel) rfl, ftb_in 341 (by decide +kernel) rfl, rfl, by decide +kernel, by decide +kernel, by decide +kernel⟩
theorem vl_X2_58 : fVl RX2 58 RX2 Y_X2_readSide 0 := ⟨ftb_in 342 (by decide +kernel) rfl, ftb_in 344 (by decide +kernel) rfl, ftb_in 7 (by decide +kernel) rfl, ftb_in 62 (by decide +kernel) rfl, ftb_in 345 (by decide +kernel) rfl, rfl, by decide +kernel, by decide +kernel, by decide +kernel⟩
theorem vl_X2_61 : fVl RX2 61 RX2 Y_X2_readNumber 0 := ⟨ftb_in 330 (by decide +kernel) rfl, ftb_in 332 (by decide +kernel) rfl, ftb_in 4 (by decide +kernel) rfl, ftb_in 62 (by decide +kernel) rfl, ftb_in 333 (by decide +kernel) rfl, rfl, by decide +kernel, by decide +kernel, by decide +kernel⟩
theorem vl_X2_73 : fVl RX2 73 RX2 Y_X2_isDigitHere 0 := ⟨ftb_in 334 (by decide +kernel) rfl, ftb_in 336 (by decide +kernel) rfl, ftb_in 5 (by decide +kernel) rfl, ftb_in 62 (by decide +kernel) rfl, ftb_in 337 (by decide +kernel) rfl, rfl, by decide +kernel, by decide +kernel, by decide +kernel⟩
theorem vl_X3_34 : fVl RX3 34 RX3 Y_X3_placeAt 3 := ⟨ftb_in 378 (by decide +kernel) rfl, ftb_in 380 (by decide +kernel) rfl, ftb_in 10 (by decide +kernel) rfl, ftb_in 61 (by decide +kernel) rfl, ftb_in 381 (by decide +kernel) rfl, rfl, by decide +kernel, by decide +kernel, by decide +kernel⟩
theorem vl_X3_44 : fVl RX3 44 RX3 Y_X3_rowLength 0 := ⟨ftb_in 287 (by decide +kernel) rfl, ftb_in 288 (by decide +kernel) rfl, ftb_in 289 (by decide +kernel) rfl, ftb_in 61 (by decide +kernel) rfl, ftb_in 290 (by decide +kernel) rfl, rfl, by decide +kernel, by decide +kernel, by decide +kernel⟩
theorem vl_X5_39 : fVl RX5 39 RX3 Y_X3_rowLength 0 := ⟨ftb_in 573 (by decide +kernel) rfl, ftb_in 288 (by decide +kernel) rfl, ftb_in 289 (by decide +kernel) rfl, ftb_in 61 (by decide +kernel) rfl, ftb_in 290 (by decide +kernel) rfl, rfl, by decide +kernel, by decide +kernel, by decide +kernel⟩
theorem vl_X5_46 : fVl RX5 46 RX3 Y_X3_takeFrom 1 := ⟨ftb_in 582 (by decide +kernel) rfl, ftb_in 347 (by decide +kernel) rfl, ftb_in 348 (by decide +kernel) rfl, ftb_in 61 (by decide +kernel) rfl, ftb_in 349 (by decide +kernel) rfl, rfl, by decide +kernel, by decide +kernel, by decide +kernel⟩
theorem nl_X5_50 : fNl RX5 50 Y_X6_power "LeanDiagonals" 2 := ⟨by decide +kernel, ftb_in 534 (by decide +kernel) rfl, ftb_in 59 (by decide +kernel) rfl, ftb_in 535 (by decide +kernel) rfl, by decide +kernel, by decide +kernel, by decide +kernel⟩
theorem vl_L_13 : fVl "LeanDiagonalsLaw" 13 RX6 Y_X6_prime 1 := ⟨ftb_in 276 (by decide +kernel) rfl, ftb_in 277 (by decide +kernel) rfl, ftb_in 278 (by decide +kernel) rfl, ftb_in 59 (by decide +kernel) rfl, ftb_in 279 (by decide +kernel) rfl, rfl, by decide +kernel, by decide +kernel, by decide +kernel⟩
theorem vl_L_17 : fVl "LeanDiagonalsLaw" 17 RX7 Y_X7_prime 1 := ⟨ftb_in 747 (by decide +kernel) rfl, ftb_in 748 (by decide +kernel) rfl, ftb_in 749 (by decide +kernel) rfl, ftb_in 66 (by decide +kernel) rfl, ftb_in 750 (by decide +kernel) rfl, rfl, by decide +kernel, by decide +kernel, by decide +kernel⟩
theorem vl_L_18 : fVl "LeanDiagonalsLaw" 18 RX6 Y_X6_type 1 := ⟨ftb_in 295 (by decide +kernel) rfl, ftb_in 296 (by decide +kernel) rfl, ftb_in 297 (by decide +kernel) rfl, ftb_in 59 (by decide +kernel) rfl, ftb_in 298 (by decide +kernel) rfl, rfl, by decide +kernel, by decide +kernel, by decide +kernel⟩
theorem vl_L_21 : fVl "LeanDiagonalsLaw" 21 RX7 Y_X7_type 1 := ⟨ftb_in 847 (by decide +kernel) rfl, ftb_in 848 (by decide +kernel) rfl, ftb_in 849 (by decide +kernel) rfl, ftb_in 66 (by decide +kernel) rfl, ftb_in 850 (by decide +kernel) rfl, rfl, by decide +kernel, by decide +kernel, by decide +kernel⟩
theorem vl_L_22 : fVl "LeanDiagonalsLaw" 22 RX6 Y_X6_matrix 0 := ⟨ftb_in 303 (by decide +kernel) rfl, ftb_in 304 (by decide +kernel) rfl, ftb_in 305 (by decide +kernel) rfl, ftb_in 59 (by decide +kernel) rfl, ftb_in 306 (by decide +kernel) rfl, rfl, by decide +kernel, by decide +kernel, by decide +kernel⟩
theorem vl_L_26 : fVl "LeanDiagonalsLaw" 26 RX7 Y_X7_matrix 0 := ⟨ftb_in 853 (by decide +kernel) rfl, ftb_in 854 (by decide +kernel) rfl, ftb_in 855 (by decide +kernel) rfl, ftb_in 66 (by decide +kernel) rfl, ftb_in 856 (by decide +kernel) rfl, rfl, by decide +kernel, by decide +kernel, by decide +kernel⟩
theorem vl_L_27 : fVl "LeanDiagonalsLaw" 27 RX6 Y_X6_line 1 := ⟨ftb_in 353 (by decide +kernel) rfl, ftb_in 354 (by decide +kernel) rfl, ftb_in 355 (by decide +kernel) rfl, ftb_in 59 (by decide +kernel) rfl, ftb_in 356 (by decide +kernel) rfl, rfl, by decide +kernel, by decide +kernel, by decide +kernel⟩
theorem vl_L_30 : fVl "LeanDiagonalsLaw" 30 RX7 Y_X7_line 1 := ⟨ftb_in 759 (by decide +kernel) rfl, ftb_in 760 (by decide +kernel) rfl, ftb_in 761 (by decide +kernel) rfl, ftb_in 66 (by decide +kernel) rfl, ftb_in 762 (by decide +kernel) rfl, rfl, by decide +kernel, by decide +kernel, by decide +kernel⟩
theorem vl_L_31 : fVl "LeanDiagonalsLaw" 31 RX6 Y_X6_right 1 := ⟨ftb_in 362 (by decide +kernel) rfl, ftb_in 363 (by decide +kernel) rfl, ftb_in 364 (by decide +kernel) rfl, ftb_in 59 (by decide +kernel) rfl, ftb_in 365 (by decide +kernel) rfl, rfl, by decide +kernel, by decide +kernel, by decide +kernel⟩
theorem vl_L_34 : fVl "LeanDiagonalsLaw" 34 RX7 Y_X7_right 1 := ⟨ftb_in 771 (by decide +kernel) rfl, ftb_in 772 (by decide +kernel) rfl, ftb_in 773 (by decide +kernel) rfl, ftb_in 66 (by decide +kernel) rfl, ftb_in 774 (by decide +kernel) rfl, rfl, by decide +kernel, by decide +kernel, by decide +kernel⟩
theorem vl_L_35 : fVl "LeanDiagonalsLaw" 35 RX6 Y_X6_entry 2 := ⟨ftb_in 370 (by decide +kernel) rfl, ftb_in 371 (by decide +kernel) rfl, ftb_in 372 (by decide +kernel) rfl, ftb_in 59 (by decide +kernel) rfl, ftb_in 373 (by decide +kernel) rfl, rfl, by decide +kernel, by decide +kernel, by decide +kernel⟩
theorem vl_L_39 : fVl "LeanDiagonalsLaw" 39 RX7 Y_X7_entry 2 := ⟨ftb_in 779 (by decide +kernel) rfl, ftb_in 780 (by decide +kernel) rfl, ftb_in 781 (by decide +kernel) rfl, ftb_in 66 (by decide +kernel) rfl, ftb_in 782 (by decide +kernel) rfl, rfl, by decide +kernel, by decide +kernel, by decide +kernel⟩
theorem vl_L_40 : fVl "LeanDiagonalsLaw" 40 RX6 Y_X6_count 1 := ⟨ftb_in 385 (by decide +kernel) rfl, ftb_in 386 (by decide +kernel) rfl, ftb_in 387 (by decide +kernel) rfl, ftb_in 59 (by decide +kernel) rfl, ftb_in 388 (by decide +kernel) rfl, rfl, by decide +kernel, by decide +kernel, by decide +kernel⟩
theorem vl_L_43 : fVl "LeanDiagonalsLaw" 43 RX7 Y_X7_count 1 := ⟨ftb_in 787 (by decide +kernel) rfl, ftb_in 788 (by decide +kernel) rfl, ftb_in 789 (by decide +kernel) rfl, ftb_in 66 (by decide +kernel) rfl, ftb_in 790 (by decide +kernel) rfl, rfl, by decide +kernel, by decide +kernel, by decide +kernel⟩
theorem vl_L_44 : fVl "LeanDiagonalsLaw" 44 RX6 Y_X6_change 2 := ⟨ftb_in 447 (by decide +kernel) rfl, ftb_in 448 (by decide +kernel) rfl, ftb_in 449 (by decide +kernel) rfl, ftb_in 59 (by decide +kernel) rfl, ftb_in 450 (by decide +kernel) rfl, rfl, by decide +kernel, by decide +kernel, by decide +kernel⟩
theorem vl_L_47 : fVl "LeanDiagonalsLaw" 47 RX7 Y_X7_change 2 := ⟨ftb_in 886 (by decide +kernel) rfl, ftb_in 887 (by decide +kernel) rfl, ftb_in 888 (by decide +kernel) rfl, ftb_in 66 (by decide +kernel) rfl, ftb_in 889 (by decide +kernel) rfl, rfl, by decide +kernel, by decide +kernel, by decide +kernel⟩
theorem vl_L_48 : fVl "LeanDiagonalsLaw" 48 RX6 Y_X6_put 2 := ⟨ftb_in 460 (by decide +kernel) rfl, ftb_in 461 (by decide +kernel) rfl, ftb_in 462 (by decide +kernel) rfl, ftb_in 59 (by decide +kernel) rfl, ftb_in 463 (by decide +kernel) rfl, rfl, by decide +kernel, by decide +kernel, by decide +kernel⟩
theorem vl_L_51 : fVl "LeanDiagonalsLaw" 51 RX7 Y_X7_put 2 := ⟨ftb_in 894 (by decide +kernel) rfl, ftb_in 895 (by decide +kernel) rfl, ftb_in 896 (by decide +kernel) rfl, ftb_in 66 (by decide +kernel) rfl, ftb_in 897 (by decide +kernel) rfl, rfl, by decide +kernel, by decide +kernel, by decide +kernel⟩
theorem vl_L_52 : fVl "LeanDiagonalsLaw" 52 RX6 Y_X6_shape 1 := ⟨ftb_in 464 (by decide +kernel) rfl, ftb_in 465 (by decide +kernel) rfl, ftb_in 466 (by decide +kernel) rfl, ftb_in 59 (by decide +kernel) rfl, ftb_in 467 (by decide +kernel) rfl, rfl, by decide +kernel, by decide +kernel, by decide +kernel⟩
theorem vl_L_55 : fVl "LeanDiagonalsLaw" 55 RX7 Y_X7_shape 1 := ⟨ftb_in 898 (by decide +kernel) rfl, ftb_in 899 (by decide +kernel) rfl, ftb_in 900 (by decide +kernel) rfl, ftb_in 66 (by decide +kernel) rfl, ftb_in 901 (by decide +kernel) rfl, rfl, by decide +kernel, by decide +kernel, by decide +kernel⟩
theorem vl_L_56 : fVl "LeanDiagonalsLaw" 56 RX6 Y_X6_widen 0 := ⟨ftb_in 468 (by decide +kernel) rfl, ftb_in 469 (by decide +kernel) rfl, ftb_in 470 (by decide +kernel) rfl, ftb_in 59 (by decide +kernel) rfl, ftb_in 471 (by decide +kernel) rfl, rfl, by decide +kernel, by decide +kernel, by decide +kernel⟩
theorem vl_L_59 : fVl "LeanDiagonalsLaw" 59 RX7 Y_X7_widen 0 := ⟨ftb_in 903 (by decide +kernel) rfl, ftb_in 904 (by decide +kernel) rfl, ftb_in 905 (by decide +kernel) rfl, ftb_in 66 (by decide +kernel) rfl, ftb_in 906 (by decide +kernel) rfl, rfl, by decide +kernel, by decide +kernel, by decide +kernel⟩
theorem vl_L_60 : fVl "LeanDiagonalsLaw" 60 RX6 Y_X6_cut 0 := ⟨ftb_in 476 (by decide +kernel) rfl, ftb_in 477 (by decide +kernel) rfl, ftb_in 478 (by decide +kernel) rfl, ftb_in 59 (by decide +kernel) rfl, ftb_in 479 (by decide +kernel) rfl, rfl, by decide +kernel, by decide +kernel, by decide +kernel⟩
theorem vl_L_63 : fVl "LeanDiagonalsLaw" 63 RX7 Y_X7_cut 0 := ⟨ftb_in 907 (by decide +kernel) rfl, ftb_in 908 (by decide +kernel) rfl, ftb_in 909 (by decide +kernel) rfl, ftb_in 66 (by decide +kernel) rfl, ftb_in 910 (by decide +kernel) rfl, rfl, by decide +kernel, by decide +kernel, by decide +kernel⟩
theorem vl_L_64 : fVl "LeanDiagonalsLaw" 64 RX6 Y_X6_turn 0 := ⟨ftb_in 484 (by decide +kernel) rfl, ftb_in 485 (by decide +kernel) rfl, ftb_in 486 (by decide +kernel) rfl, ftb_in 59 (by decide +kernel) rfl, ftb_in 487 (by decide +kernel) rfl, rfl, by decide +kernel, by decide +kernel, by decide +kernel⟩
theorem vl_L_67 : fVl "LeanDiagonalsLaw" 67 RX7 Y_X7_turn 0 := ⟨ftb_in 911 (by decide +kernel) rfl, ftb_in 912 (by decide +kernel) rfl, ftb_in 913 (by decide +kernel) rfl, ftb_in 66 (by decide +kernel) rfl, ftb_in 914 (by decide +kernel) rfl, rfl, by decide +kernel, by decide +kernel, by decide +kernel⟩
theorem vl_L_68 : fVl "LeanDiagonalsLaw" 68 RX6 Y_X6_drift 1 := ⟨ftb_in 492 (by decide +kernel) rfl, ftb_in 493 (by decide +kernel) rfl, ftb_in 494 (by decide +kernel) rfl, ftb_in 59 (by decide +kernel) rfl, ftb_in 495 (by decide +kernel) rfl, rfl, by decide +kernel, by decide +kernel, by decide +kernel⟩
theorem vl_L_71 : fVl "LeanDiagonalsLaw" 71 RX7 Y_X7_drift 1 := ⟨ftb_in 915 (by decide +kernel) rfl, ftb_in 916 (by decide +kernel) rfl, ftb_in 917 (by decide +kernel) rfl, ftb_in 66 (by decide +kernel) rfl, ftb_in 918 (by decide +kernel) rfl, rfl, by decide +kernel, by decide +kernel, by decide +kernel⟩
theorem vl_L_72 : fVl "LeanDiagonalsLaw" 72 RX6 Y_X6_undo 0 := ⟨ftb_in 504 (by decide +kernel) rfl, ftb_in 505 (by decide +kernel) rfl, ftb_in 506 (by decide +kernel) rfl, ftb_in 59 (by decide +kernel) rfl, ftb_in 507 (by decide +kernel) rfl, rfl, by decide +kernel, by decide +kernel, by decide +kernel⟩
theorem vl_L_75 : fVl "LeanDiagonalsLaw" 75 RX7 Y_X7_undo 0 := ⟨ftb_in 924 (by decide +kernel) rfl, ftb_in 925 (by decide +kernel) rfl, ftb_in 926 (by decide +kernel) rfl, ftb_in 66 (by decide +kernel) rfl, ftb_in 927 (by decide +kernel) rfl, rfl, by decide +kernel, by decide +kernel, by decide +kernel⟩
theorem vl_L_76 : fVl "LeanDiagonalsLaw" 76 RX6 Y_X6_seed 1 := ⟨ftb_in 512 (by decide +kernel) rfl, ftb_in 513 (by decide +kernel) rfl, ftb_in 514 (by decide +kernel) rfl, ftb_in 59 (by decide +kernel) rfl, ftb_in 515 (by decide +kernel) rfl, rfl, by decide +kernel, by decide +kernel, by decide +kernel⟩
theorem vl_L_79 : fVl "LeanDiagonalsLaw" 79 RX7 Y_X7_seed 1 := ⟨ftb_in 928 (by decide +kernel) rfl, ftb_in 929 (by decide +kernel) rfl, ftb_in 930 (by decide +kernel) rfl, ftb_in 66 (by decide +kernel) rfl, ftb_in 931 (by decide +kernel) rfl, rfl, by decide +kernel, by decide +kernel, by decide +kernel⟩
theorem vl_L_80 : fVl "LeanDiagonalsLaw" 80 RX6 Y_X6_corner 1 := ⟨ftb_in 516 (by decide +kernel) rfl, ftb_in 517 (by decide +kernel) rfl, ftb_in 518 (by decide +kernel) rfl, ftb_in 59 (by decide +kernel) rfl, ftb_in 519 (by decide +kernel) rfl, rfl, by decide +kernel, by decide +kernel, by decide +kernel⟩
theorem vl_L_83 : fVl "LeanDiagonalsLaw" 83 RX7 Y_X7_corner 1 := ⟨ftb_in 932 (by decide +kernel) rfl, ftb_in 933 (by decide +kernel) rfl, ftb_in 934 (by decide +kernel) rfl, ftb_in 66 (by decide +kernel) rfl, ftb_in 935 (by decide +kernel) rfl, rfl, by decide +kernel, by decide +kernel, by decide +kernel⟩
theorem vl_L_84 : fVl "LeanDiagonalsLaw" 84 RX6 Y_X6_leap 1 := ⟨ftb_in 520 (by decide +kernel) rfl, ftb_in 521 (by decide +kernel) rfl, ftb_in 522 (by decide +kernel) rfl, ftb_in 59 (by decide +kernel) rfl, ftb_in 523 (by decide +kernel) rfl, rfl, by decide +kernel, by decide +kernel, by decide +kernel⟩
theorem vl_L_87 : fVl "LeanDiagonalsLaw" 87 RX7 Y_X7_leap 1 := ⟨ftb_in 936 (by decide +kernel) rfl, ftb_in 937 (by decide +kernel) rfl, ftb_in 938 (by decide +kernel) rfl, ftb_in 66 (by decide +kernel) rfl, ftb_in 939 (by decide +kernel) rfl, rfl, by decide +kernel, by decide +kernel, by decide +kernel⟩
theorem vl_L_88 : fVl "LeanDiagonalsLaw" 88 RX6 Y_X6_solved 1 := ⟨ftb_in 524 (by decide +kernel) rfl, ftb_in 525 (by decide +kernel) rfl, ftb_in 526 (by decide +kernel) rfl, ftb_in 59 (by decide +kernel) rfl, ftb_in 527 (by decide +kernel) rfl, rfl, by decide +kernel, by decide +kernel, by decide +kernel⟩
theorem vl_L_92 : fVl "LeanDiagonalsLaw" 92 RX7 Y_X7_solved 1 := ⟨ftb_in 940 (by decide +kernel) rfl, ftb_in 941 (by decide +kernel) rfl, ftb_in 942 (by decide +kernel) rfl, ftb_in 66 (by decide +kernel) rfl, ftb_in 943 (by decide +kernel) rfl, rfl, by decide +kernel, by decide +kernel, by decide +kernel⟩
theorem vl_L_93 : fVl "LeanDiagonalsLaw" 93 RX6 Y_X6_inverse 2 := ⟨ftb_in 537 (by decide +kernel) rfl, ftb_in 538 (by decide +kernel) rfl, ftb_in 539 (by decide +kernel) rfl, ftb_in 59 (by decide +kernel) rfl, ftb_in 540 (by decide +kernel) rfl, rfl, by decide +kernel, by decide +kernel, by decide +kernel⟩
theorem vl_L_96 : fVl "LeanDiagonalsLaw" 96 RX7 Y_X7_inverse 2 := ⟨ftb_in 950 (by decide +kernel) rfl, ftb_in 951 (by decide +kernel) rfl, ftb_in 952 (by decide +kernel) rfl, ftb_in 66 (by decide +kernel) rfl, ftb_in 953 (by decide +kernel) rfl, rfl, by decide +kernel, by decide +kernel, by decide +kernel⟩
theorem vl_L_97 : fVl "LeanDiagonalsLaw" 97 RX6 Y_X6_weak 2 := ⟨ftb_in 541 (by decide +kernel) rfl, ftb_in 542 (by decide +kernel) rfl, ftb_in 543 (by decide +kernel) rfl, ftb_in 59 (by decide +kernel) rfl, ftb_in 544 (by decide +kernel) rfl, rfl, by decide +kernel, by decide +kernel, by decide +kernel⟩
theorem vl_L_100 : fVl "LeanDiagonalsLaw" 100 RX7 Y_X7_weak 2 := ⟨ftb_in 954 (by decide +kernel) rfl, ftb_in 955 (by decide +kernel) rfl, ftb_in 956 (by decide +kernel) rfl, ftb_in 66 (by decide +kernel) rfl, ftb_in 957 (by decide +kernel) rfl, rfl, by decide +kernel, by decide +kernel, by decide +kernel⟩
theorem vl_L_101 : fVl "LeanDiagonalsLaw" 101 RX6 Y_X6_mend 1 := ⟨ftb_in 548 (by decide +kernel) rfl, ftb_in 549 (by decide +kernel) rfl, ftb_in 550 (by decide +kernel) rfl, ftb_in 59 (by decide +kernel) rfl, ftb_in 551 (by decide +kernel) rfl, rfl, by decide +kernel, by decide +kernel, by decide +kernel⟩
theorem vl_L_104 : fVl "LeanDiagonalsLaw" 104 RX7 Y_X7_mend 1 := ⟨ftb_in 958 (by decide +kernel) rfl, ftb_in 959 (by decide +kernel) rfl, ftb_in 960 (by decide +kernel) rfl, ftb_in 66 (by decide +kernel) rfl, ftb_in 961 (by decide +kernel) rfl, rfl, by decide +kernel, by decide +kernel, by decide +kernel⟩
theorem vl_L_105 : fVl "LeanDiagonalsLaw" 105 RX6 Y_X6_term 1 := ⟨ftb_in 556 (by decide +kernel) rfl, ftb_in 557 (by decide +kernel) rfl, ftb_in 558 (by decide +kernel) rfl, ftb_in 59 (by decide +kernel) rfl, ftb_in 559 (by decide +kernel) rfl, rfl, by decide +kernel, by decide +kernel, by decide +kernel⟩
theorem vl_L_108 : fVl "LeanDiagonalsLaw" 108 RX7 Y_X7_term 1 := ⟨ftb_in 966 (by decide +kernel) rfl, ftb_in 967 (by decide +kernel) rfl, ftb_in 968 (by decide +kernel) rfl, ftb_in 66 (by decide +kernel) rfl, ftb_in 969 (by decide +kernel) rfl, rfl, by decide +kernel, by decide +kernel, by decide +kernel⟩
theorem vl_L_109 : fVl "LeanDiagonalsLaw" 109 RX6 Y_X6_next 1 := ⟨ftb_in 560 (by decide +kernel) rfl, ftb_in 561 (by decide +kernel) rfl, ftb_in 562 (by decide +kernel) rfl, ftb_in 59 (by decide +kernel) rfl, ftb_in 563 (by decide +kernel) rfl, rfl, by decide +kernel, by decide +kernel, by decide +kernel⟩
theorem vl_L_112 : fVl "LeanDiagonalsLaw" 112 RX7 Y_X7_next 1 := ⟨ftb_in 970 (by decide +kernel) rfl, ftb_in 971 (by decide +kernel) rfl, ftb_in 972 (by decide +kernel) rfl, ftb_in 66 (by decide +kernel) rfl, ftb_in 973 (by decide +kernel) rfl, rfl, by decide +kernel, by decide +kernel, by decide +kernel⟩
theorem vl_L_113 : fVl "LeanDiagonalsLaw" 113 RX6 Y_X6_wiped 2 := ⟨ftb_in 565 (by decide +kernel) rfl, ftb_in 566 (by decide +kernel) rfl, ftb_in 567 (by decide +kernel) rfl, ftb_in 59 (by decide +kernel) rfl, ftb_in 568 (by decide +kernel) rfl, rfl, by decide +kernel, by decide +kernel, by decide +kernel⟩
theorem vl_L_117 : fVl "LeanDiagonalsLaw" 117 RX7 Y_X7_wiped 2 := ⟨ftb_in 975 (by decide +kernel) rfl, ftb_in 976 (by decide +kernel) rfl, ftb_in 977 (by decide +kernel) rfl, ftb_in 66 (by decide +kernel) rfl, ftb_in 978 (by decide +kernel) rfl, rfl, by decide +kernel, by decide +kernel, by decide +kernel⟩
theorem vl_L_118 : fVl "LeanDiagonalsLaw" 118 RX6 Y_X6_image 0 := ⟨ftb_in 598 (by decide +kernel) rfl, ftb_in 599 (by decide +kernel) rfl, ftb_in 600 (by decide +kernel) rfl, ftb_in 59 (by decide +kernel) rfl, ftb_in 601 (by decide +kernel) rfl, rfl, by decide +kernel, by decide +kernel, by decide +kernel⟩
theorem vl_L_121 : fVl "LeanDiagonalsLaw" 121 RX7 Y_X7_image 0 := ⟨ftb_in 980 (by decide +kernel) rfl, ftb_in 981 (by decide +kernel) rfl, ftb_in 982 (by decide +kernel) rfl, ftb_in 66 (by decide +kernel) rfl, ftb_in 983 (by decide +kernel) rfl, rfl, by decide +kernel, by decide +kernel, by decide +kernel⟩
theorem vl_L_122 : fVl "LeanDiagonalsLaw" 122 RX6 Y_X6_restore 0 := ⟨ftb_in 606 (by decide +kernel) rfl, ftb_in 607 (by decide +kernel) rfl, ftb_in 608 (by decide +kernel) rfl, ftb_in 59 (by decide +kernel) rfl, ftb_in 609 (by decide +kernel) rfl, rfl, by decide +kernel, by decide +kernel, by decide +kernel⟩
theorem vl_L_125 : fVl "LeanDiagonalsLaw" 125 RX7 Y_X7_restore 0 := ⟨ftb_in 984 (by decide +kernel) rfl, ftb_in 985 (by decide +kernel) rfl, ftb_in 986 (by decide +kernel) rfl, ftb_in 66 (by decide +kernel) rfl, ftb_in 987 (by decide +kernel) rfl, rfl, by decide +kernel, by decide +kernel, by decide +kernel⟩
theorem vl_L_126 : fVl "LeanDiagonalsLaw" 126 RX6 Y_X6_came 3 := ⟨ftb_in 610 (by decide +kernel) rfl, ftb_in 611 (by decide +kernel) rfl, ftb_in 612 (by decide +kernel) rfl, ftb_in 59 (by decide +kernel) rfl, ftb_in 613 (by decide +kernel) rfl, rfl, by decide +kernel, by decide +kernel, by decide +kernel⟩
theorem vl_L_130 : fVl "LeanDiagonalsLaw" 130 RX7 Y_X7_came 3 := ⟨ftb_in 1015 (by decide +kernel) rfl, ftb_in 1016 (by decide +kernel) rfl, ftb_in 1017 (by decide +kernel) rfl, ftb_in 66 (by decide +kernel) rfl, ftb_in 1018 (by decide +kernel) rfl, rfl, by decide +kernel, by decide +kernel, by decide +kernel⟩
theorem vl_L_131 : fVl "LeanDiagonalsLaw" 131 RX6 Y_X6_apply 3 := ⟨ftb_in 644 (by decide +kernel) rfl, ftb_in 645 (by decide +kernel) rfl, ftb_in 646 (by decide +kernel) rfl, ftb_in 59 (by decide +kernel) rfl, ftb_in 647 (by decide +kernel) rfl, rfl, by decide +kernel, by decide +kernel, by decide +kernel⟩
theorem vl_L_134 : fVl "LeanDiagonalsLaw" 134 RX7 Y_X7_apply 3 := ⟨ftb_in 1027 (by decide +kernel) rfl, ftb_in 1028 (by decide +kernel) rfl, ftb_in 1029 (by decide +kernel) rfl, ftb_in 66 (by decide +kernel) rfl, ftb_in 1030 (by decide +kernel) rfl, rfl, by decide +kernel, by decide +kernel, by decide +kernel⟩
theorem vl_L_135 : fVl "LeanDiagonalsLaw" 135 RX6 Y_X6_film 3 := ⟨ftb_in 648 (by decide +kernel) rfl, ftb_in 649 (by decide +kernel) rfl, ftb_in 650 (by decide +kernel) rfl, ftb_in 59 (by decide +kernel) rfl, ftb_in 651 (by decide +kernel) rfl, rfl, by decide +kernel, by decide +kernel, by decide +kernel⟩
theorem vl_L_138 : fVl "LeanDiagonalsLaw" 138 RX7 Y_X7_film 3 := ⟨ftb_in 1031 (by decide +kernel) rfl, ftb_in 1032 (by decide +kernel) rfl, ftb_in 1033 (by decide +kernel) rfl, ftb_in 66 (by decide +kernel) rfl, ftb_in 1034 (by decide +kernel) rfl, rfl, by decide +kernel, by decide +kernel, by decide +kernel⟩
theorem vl_L_139 : fVl "LeanDiagonalsLaw" 139 RX6 Y_X6_sheet 3 := ⟨ftb_in 656 (by decide +kernel) rfl, ftb_in 657 (by decide +kernel) rfl, ftb_in 658 (by decide +kernel) rfl, ftb_in 59 (by decide +kernel) rfl, ftb_in 659 (by decide +kernel) rfl, rfl, by decide +kernel, by decide +kernel, by decide +kernel⟩
theorem vl_L_142 : fVl "LeanDiagonalsLaw" 142 RX7 Y_X7_sheet 3 := ⟨ftb_in 988 (by decide +kernel) rfl, ftb_in 989 (by decide +kernel) rfl, ftb_in 990 (by decide +kernel) rfl, ftb_in 66 (by decide +kernel) rfl, ftb_in 991 (by decide +kernel) rfl, rfl, by decide +kernel, by decide +kernel, by decide +kernel⟩
theorem vl_L_143 : fVl "LeanDiagonalsLaw" 143 RX6 Y_X6_drop 1 := ⟨ftb_in 664 (by decide +kernel) rfl, ftb_in 665 (by decide +kernel) rfl, ftb_in 666 (by decide +kernel) rfl, ftb_in 59 (by decide +kernel) rfl, ftb_in 667 (by decide +kernel) rfl, rfl, by decide +kernel, by decide +kernel, by decide +kernel⟩
theorem vl_L_146 : fVl "LeanDiagonalsLaw" 146 RX7 Y_X7_drop 1 := ⟨ftb_in 996 (by decide +kernel) rfl, ftb_in 997 (by decide +kernel) rfl, ftb_in 998 (by decide +kernel) rfl, ftb_in 66 (by decide +kernel) rfl, ftb_in 999 (by decide +kernel) rfl, rfl, by decide +kernel, by decide +kernel, by decide +kernel⟩
theorem vl_L_149 : fVl "LeanDiagonalsLaw" 149 RX6 Y_X6_item 4 := ⟨ftb_in 672 (by decide +kernel) rfl, ftb_in 673 (by decide +kernel) rfl, ftb_in 674 (by decide +kernel) rfl, ftb_in 59 (by decide +kernel) rfl, ftb_in 675 (by decide +kernel) rfl, rfl, by decide +kernel, by decide +kernel, by decide +kernel⟩
theorem vl_L_153 : fVl "LeanDiagonalsLaw" 153 RX7 Y_X7_item 4 := ⟨ftb_in 1000 (by decide +kernel) rfl, ftb_in 1001 (by decide +kernel) rfl, ftb_in 1002 (by decide +kernel) rfl, ftb_in 66 (by decide +kernel) rfl, ftb_in 1003 (by decide +kernel) rfl, rfl, by decide +kernel, by decide +kernel, by decide +kernel⟩
theorem vl_L_154 : fVl "LeanDiagonalsLaw" 154 RX6 Y_X6_copy 5 := ⟨ftb_in 679 (by decide +kernel) rfl, ftb_in 680 (by decide +kernel) rfl, ftb_in 681 (by decide +kernel) rfl, ftb_in 59 (by decide +kernel) rfl, ftb_in 682 (by decide +kernel) rfl, rfl, by decide +kernel, by decide +kernel, by decide +kernel⟩
theorem vl_L_158 : fVl "LeanDiagonalsLaw" 158 RX7 Y_X7_copy 5 := ⟨ftb_in 1011 (by decide +kernel) rfl, ftb_in 1012 (by decide +kernel) rfl, ftb_in 1013 (by decide +kernel) rfl, ftb_in 66 (by decide +kernel) rfl, ftb_in 1014 (by decide +kernel) rfl, rfl, by decide +kernel, by decide +kernel, by decide +kernel⟩
theorem lb_copy_X6 : Cond.methodLink RX6 203 arraycopyName ∈ ftb := ftb_in 564 (by decide +kernel) rfl
theorem lb_min_X6 : Cond.methodLink RX6 255 Lib.MathLoose.min_long.x ∈ ftb := ftb_in 653 (by decide +kernel) rfl
theorem lb_copy_X3 : Cond.methodLink RX3 28 arraycopyName ∈ ftb := ftb_in 350 (by decide +kernel) rfl
theorem lb_abs_X3 : Cond.methodLink RX3 38 Lib.Math.abs.name ∈ ftb := ftb_in 382 (by decide +kernel) rfl
theorem lb_math : Cond.initialized "java/lang/Math" ∈ ftb := ftb_in 68 (by decide +kernel) rfl
theorem lb_sys : Cond.initialized "java/lang/System" ∈ ftb := ftb_in 67 (by decide +kernel) rfl
theorem lb_abs_s : Cond.static Lib.Math.abs.name ∈ ftb := ftb_in 383 (by decide +kernel) rfl
theorem lb_abs_c : Cond.code Lib.Math.abs.name Lib.Math.abs.code 1 (some .int) ∈ ftb := ftb_in 384 (by decide +kernel) rfl
theorem lb_min_s : Cond.static Lib.MathLoose.min_long.x ∈ ftb := ftb_in 654 (by decide +kernel) rfl
theorem lb_min_c : Cond.code Lib.MathLoose.min_long.x Lib.MathLoose.min_long.code 4 (some .long) ∈ ftb := ftb_in 655 (by decide +kernel) rfl
theorem lb_copy_n : Cond.native arraycopyName ∈ ftb := ftb_in 352 (by decide +kernel) rfl
theorem lb_copy_s : Cond.static arraycopyName ∈ ftb := ftb_in 351 (by decide +kernel) rfl
