/-! THE WORDS OF THE TABLES, by their places: what links, what may be called, what a field instruction stands on -/
theorem tt_at {i : Nat} {w : Cond} (h : lw_tbl[i]? = some w) (hg : goodWord w = true) : w ∈ TT := List.mem_filter.mpr ⟨List.mem_of_getElem? h, hg⟩
theorem ini_RX0 : Cond.initialized RX0 ∈ TT := tt_at (i := 45) (by decide +kernel) rfl
theorem ini_RX1 : Cond.initialized RX1 ∈ TT := tt_at (i := 46) (by decide +kernel) rfl
theorem ini_RX2 : Cond.initialized RX2 ∈ TT := tt_at (i := 49) (by decide +kernel) rfl
theorem ini_RX3 : Cond.initialized RX3 ∈ TT := tt_at (i := 48) (by decide +kernel) rfl
theorem ini_RX4 : Cond.initialized RX4 ∈ TT := tt_at (i := 47) (by decide +kernel) rfl
theorem ini_RX5 : Cond.initialized RX5 ∈ TT := tt_at (i := 44) (by decide +kernel) rfl
theorem ini_RX6 : Cond.initialized RX6 ∈ TT := tt_at (i := 55) (by decide +kernel) rfl
theorem ini_RJ13 : Cond.initialized RJ13 ∈ TT := tt_at (i := 56) (by decide +kernel) rfl
theorem ini_RJ9 : Cond.initialized RJ9 ∈ TT := tt_at (i := 54) (by decide +kernel) rfl
theorem ini_RJ0 : Cond.initialized RJ0 ∈ TT := tt_at (i := 50) (by decide +kernel) rfl
theorem ini_RJ1 : Cond.initialized RJ1 ∈ TT := tt_at (i := 51) (by decide +kernel) rfl
theorem ini_RJ2 : Cond.initialized RJ2 ∈ TT := tt_at (i := 52) (by decide +kernel) rfl
theorem ini_RJ3 : Cond.initialized RJ3 ∈ TT := tt_at (i := 53) (by decide +kernel) rfl
theorem ini_RL : Cond.initialized RL ∈ TT := tt_at (i := 43) (by decide +kernel) rfl
abbrev mX5_init : MD := (yX5_init, cX5_init, 2, none)
theorem cl_X5_init : CL mX5_init 0 := ⟨tt_at (i := 61) (by decide +kernel) rfl, ini_RX5, by decide +kernel, by decide +kernel⟩
theorem ii_X5_init : Cond.instanceMethod yX5_init ∈ TT ∧ yX5_init.name = "<init>" ∧ mX5_init.2.2.2 = none := ⟨tt_at (i := 60) (by decide +kernel) rfl, rfl, rfl⟩
abbrev mX0_init : MD := (yX0_init, cX0_init, 1, none)
theorem cl_X0_init : CL mX0_init 0 := ⟨tt_at (i := 69) (by decide +kernel) rfl, ini_RX0, by decide +kernel, by decide +kernel⟩
theorem ii_X0_init : Cond.instanceMethod yX0_init ∈ TT ∧ yX0_init.name = "<init>" ∧ mX0_init.2.2.2 = none := ⟨tt_at (i := 68) (by decide +kernel) rfl, rfl, rfl⟩
abbrev mX1_init : MD := (yX1_init, cX1_init, 3, none)
theorem cl_X1_init : CL mX1_init 1 := ⟨tt_at (i := 106) (by decide +kernel) rfl, ini_RX1, by decide +kernel, by decide +kernel⟩
theorem ii_X1_init : Cond.instanceMethod yX1_init ∈ TT ∧ yX1_init.name = "<init>" ∧ mX1_init.2.2.2 = none := ⟨tt_at (i := 105) (by decide +kernel) rfl, rfl, rfl⟩
abbrev mX4_init : MD := (yX4_init, cX4_init, 1, none)
theorem cl_X4_init : CL mX4_init 0 := ⟨tt_at (i := 113) (by decide +kernel) rfl, ini_RX4, by decide +kernel, by decide +kernel⟩
theorem ii_X4_init : Cond.instanceMethod yX4_init ∈ TT ∧ yX4_init.name = "<init>" ∧ mX4_init.2.2.2 = none := ⟨tt_at (i := 112) (by decide +kernel) rfl, rfl, rfl⟩
abbrev mX3_init : MD := (yX3_init, cX3_init, 1, none)
theorem cl_X3_init : CL mX3_init 0 := ⟨tt_at (i := 187) (by decide +kernel) rfl, ini_RX3, by decide +kernel, by decide +kernel⟩
theorem ii_X3_init : Cond.instanceMethod yX3_init ∈ TT ∧ yX3_init.name = "<init>" ∧ mX3_init.2.2.2 = none := ⟨tt_at (i := 186) (by decide +kernel) rfl, rfl, rfl⟩
abbrev mX2_init : MD := (yX2_init, cX2_init, 4, none)
theorem cl_X2_init : CL mX2_init 2 := ⟨tt_at (i := 221) (by decide +kernel) rfl, ini_RX2, by decide +kernel, by decide +kernel⟩
theorem ii_X2_init : Cond.instanceMethod yX2_init ∈ TT ∧ yX2_init.name = "<init>" ∧ mX2_init.2.2.2 = none := ⟨tt_at (i := 220) (by decide +kernel) rfl, rfl, rfl⟩
abbrev mJ0_toCharArray_70df3 : MD := (yJ0_toCharArray_70df3, cJ0_toCharArray_70df3, 1, some (Jvm.ClassFile.FieldType.array Jvm.ClassFile.FieldType.char))
theorem cl_J0_toCharArray_70df3 : CL mJ0_toCharArray_70df3 0 := ⟨tt_at (i := 238) (by decide +kernel) rfl, ini_RJ0, by decide +kernel, by decide +kernel⟩
theorem im_J0_toCharArray_70df3 : Cond.instanceMethod yJ0_toCharArray_70df3 ∈ TT ∧ Cond.selects RJ0 yJ0_toCharArray_70df3 yJ0_toCharArray_70df3 ∈ TT := ⟨tt_at (i := 236) (by decide +kernel) rfl, tt_at (i := 237) (by decide +kernel) rfl⟩
abbrev mJ0_isLatin1_aae02 : MD := (yJ0_isLatin1_aae02, cJ0_isLatin1_aae02, 1, some Jvm.ClassFile.FieldType.boolean)
theorem cl_J0_isLatin1_aae02 : CL mJ0_isLatin1_aae02 0 := ⟨tt_at (i := 242) (by decide +kernel) rfl, ini_RJ0, by decide +kernel, by decide +kernel⟩
theorem im_J0_isLatin1_aae02 : Cond.instanceMethod yJ0_isLatin1_aae02 ∈ TT ∧ Cond.selects RJ0 yJ0_isLatin1_aae02 yJ0_isLatin1_aae02 ∈ TT := ⟨tt_at (i := 240) (by decide +kernel) rfl, tt_at (i := 241) (by decide +kernel) rfl⟩
abbrev mJ1_toChars_9d188 : MD := (yJ1_toChars_9d188, cJ1_toChars_9d188, 2, some (Jvm.ClassFile.FieldType.array Jvm.ClassFile.FieldType.char))
theorem cl_J1_toChars_9d188 : CL mJ1_toChars_9d188 1 := ⟨tt_at (i := 247) (by decide +kernel) rfl, ini_RJ1, by decide +kernel, by decide +kernel⟩
theorem sm_J1_toChars_9d188 : Cond.static yJ1_toChars_9d188 ∈ TT := tt_at (i := 246) (by decide +kernel) rfl
abbrev mJ1_inflate_03870 : MD := (yJ1_inflate_03870, cJ1_inflate_03870, 6, none)
theorem cl_J1_inflate_03870 : CL mJ1_inflate_03870 5 := ⟨tt_at (i := 250) (by decide +kernel) rfl, ini_RJ1, by decide +kernel, by decide +kernel⟩
theorem sm_J1_inflate_03870 : Cond.static yJ1_inflate_03870 ∈ TT := tt_at (i := 249) (by decide +kernel) rfl
abbrev mJ2_toChars_9d188 : MD := (yJ2_toChars_9d188, cJ2_toChars_9d188, 2, some (Jvm.ClassFile.FieldType.array Jvm.ClassFile.FieldType.char))
theorem cl_J2_toChars_9d188 : CL mJ2_toChars_9d188 1 := ⟨tt_at (i := 253) (by decide +kernel) rfl, ini_RJ2, by decide +kernel, by decide +kernel⟩
theorem sm_J2_toChars_9d188 : Cond.static yJ2_toChars_9d188 ∈ TT := tt_at (i := 252) (by decide +kernel) rfl
abbrev mJ2_getChars_a1a8b : MD := (yJ2_getChars_a1a8b, cJ2_getChars_a1a8b, 6, none)
theorem cl_J2_getChars_a1a8b : CL mJ2_getChars_a1a8b 5 := ⟨tt_at (i := 256) (by decide +kernel) rfl, ini_RJ2, by decide +kernel, by decide +kernel⟩
theorem sm_J2_getChars_a1a8b : Cond.static yJ2_getChars_a1a8b ∈ TT := tt_at (i := 255) (by decide +kernel) rfl
abbrev mJ2_checkBoundsOffCount_d044e : MD := (yJ2_checkBoundsOffCount_d044e, cJ2_checkBoundsOffCount_d044e, 3, none)
theorem cl_J2_checkBoundsOffCount_d044e : CL mJ2_checkBoundsOffCount_d044e 3 := ⟨tt_at (i := 259) (by decide +kernel) rfl, ini_RJ2, by decide +kernel, by decide +kernel⟩
theorem sm_J2_checkBoundsOffCount_d044e : Cond.static yJ2_checkBoundsOffCount_d044e ∈ TT := tt_at (i := 258) (by decide +kernel) rfl
abbrev mJ2_length_9d52b : MD := (yJ2_length_9d52b, cJ2_length_9d52b, 1, some Jvm.ClassFile.FieldType.int)
theorem cl_J2_length_9d52b : CL mJ2_length_9d52b 1 := ⟨tt_at (i := 262) (by decide +kernel) rfl, ini_RJ2, by decide +kernel, by decide +kernel⟩
theorem sm_J2_length_9d52b : Cond.static yJ2_length_9d52b ∈ TT := tt_at (i := 261) (by decide +kernel) rfl
abbrev mJ0_checkBoundsOffCount_cabcc : MD := (yJ0_checkBoundsOffCount_cabcc, cJ0_checkBoundsOffCount_cabcc, 3, some Jvm.ClassFile.FieldType.int)
theorem cl_J0_checkBoundsOffCount_cabcc : CL mJ0_checkBoundsOffCount_cabcc 3 := ⟨tt_at (i := 265) (by decide +kernel) rfl, ini_RJ0, by decide +kernel, by decide +kernel⟩
theorem sm_J0_checkBoundsOffCount_cabcc : Cond.static yJ0_checkBoundsOffCount_cabcc ∈ TT := tt_at (i := 264) (by decide +kernel) rfl
abbrev mJ3_checkFromIndexSize_8c36e : MD := (yJ3_checkFromIndexSize_8c36e, cJ3_checkFromIndexSize_8c36e, 4, some Jvm.ClassFile.FieldType.int)
theorem cl_J3_checkFromIndexSize_8c36e : CL mJ3_checkFromIndexSize_8c36e 4 := ⟨tt_at (i := 270) (by decide +kernel) rfl, ini_RJ3, by decide +kernel, by decide +kernel⟩
theorem sm_J3_checkFromIndexSize_8c36e : Cond.static yJ3_checkFromIndexSize_8c36e ∈ TT := tt_at (i := 269) (by decide +kernel) rfl
abbrev mJ2_getChar_3b067 : MD := (yJ2_getChar_3b067, cJ2_getChar_3b067, 2, some Jvm.ClassFile.FieldType.char)
theorem cl_J2_getChar_3b067 : CL mJ2_getChar_3b067 2 := ⟨tt_at (i := 273) (by decide +kernel) rfl, ini_RJ2, by decide +kernel, by decide +kernel⟩
theorem sm_J2_getChar_3b067 : Cond.static yJ2_getChar_3b067 ∈ TT := tt_at (i := 272) (by decide +kernel) rfl
abbrev mX3_readText : MD := (yX3_readText, cX3_readText, 5, some Jvm.ClassFile.FieldType.int)
theorem cl_X3_readText : CL mX3_readText 2 := ⟨tt_at (i := 283) (by decide +kernel) rfl, ini_RX3, by decide +kernel, by decide +kernel⟩
theorem im_X3_readText : Cond.instanceMethod yX3_readText ∈ TT ∧ Cond.selects RX3 yX3_readText yX3_readText ∈ TT := ⟨tt_at (i := 281) (by decide +kernel) rfl, tt_at (i := 282) (by decide +kernel) rfl⟩
abbrev mJ9_min_7cf53 : MD := (yJ9_min_7cf53, cJ9_min_7cf53, 2, some Jvm.ClassFile.FieldType.int)
theorem cl_J9_min_7cf53 : CL mJ9_min_7cf53 2 := ⟨tt_at (i := 286) (by decide +kernel) rfl, ini_RJ9, by decide +kernel, by decide +kernel⟩
theorem sm_J9_min_7cf53 : Cond.static yJ9_min_7cf53 ∈ TT := tt_at (i := 285) (by decide +kernel) rfl
abbrev mX0_clear : MD := (yX0_clear, cX0_clear, 2, none)
theorem cl_X0_clear : CL mX0_clear 0 := ⟨tt_at (i := 290) (by decide +kernel) rfl, ini_RX0, by decide +kernel, by decide +kernel⟩
theorem im_X0_clear : Cond.instanceMethod yX0_clear ∈ TT ∧ Cond.selects RX0 yX0_clear yX0_clear ∈ TT := ⟨tt_at (i := 288) (by decide +kernel) rfl, tt_at (i := 289) (by decide +kernel) rfl⟩
abbrev mX1_clear : MD := (yX1_clear, cX1_clear, 2, none)
theorem cl_X1_clear : CL mX1_clear 0 := ⟨tt_at (i := 294) (by decide +kernel) rfl, ini_RX1, by decide +kernel, by decide +kernel⟩
theorem im_X1_clear : Cond.instanceMethod yX1_clear ∈ TT ∧ Cond.selects RX1 yX1_clear yX1_clear ∈ TT := ⟨tt_at (i := 292) (by decide +kernel) rfl, tt_at (i := 293) (by decide +kernel) rfl⟩
abbrev mX3_readItem : MD := (yX3_readItem, cX3_readItem, 1, some Jvm.ClassFile.FieldType.boolean)
theorem cl_X3_readItem : CL mX3_readItem 0 := ⟨tt_at (i := 298) (by decide +kernel) rfl, ini_RX3, by decide +kernel, by decide +kernel⟩
theorem im_X3_readItem : Cond.instanceMethod yX3_readItem ∈ TT ∧ Cond.selects RX3 yX3_readItem yX3_readItem ∈ TT := ⟨tt_at (i := 296) (by decide +kernel) rfl, tt_at (i := 297) (by decide +kernel) rfl⟩
abbrev mX3_nextLetter : MD := (yX3_nextLetter, cX3_nextLetter, 2, some Jvm.ClassFile.FieldType.char)
theorem cl_X3_nextLetter : CL mX3_nextLetter 0 := ⟨tt_at (i := 302) (by decide +kernel) rfl, ini_RX3, by decide +kernel, by decide +kernel⟩
theorem im_X3_nextLetter : Cond.instanceMethod yX3_nextLetter ∈ TT ∧ Cond.selects RX3 yX3_nextLetter yX3_nextLetter ∈ TT := ⟨tt_at (i := 300) (by decide +kernel) rfl, tt_at (i := 301) (by decide +kernel) rfl⟩
abbrev mX3_readLine : MD := (yX3_readLine, cX3_readLine, 4, some Jvm.ClassFile.FieldType.boolean)
theorem cl_X3_readLine : CL mX3_readLine 0 := ⟨tt_at (i := 306) (by decide +kernel) rfl, ini_RX3, by decide +kernel, by decide +kernel⟩
theorem im_X3_readLine : Cond.instanceMethod yX3_readLine ∈ TT ∧ Cond.selects RX3 yX3_readLine yX3_readLine ∈ TT := ⟨tt_at (i := 304) (by decide +kernel) rfl, tt_at (i := 305) (by decide +kernel) rfl⟩
abbrev mX3_tellGround : MD := (yX3_tellGround, cX3_tellGround, 3, none)
theorem cl_X3_tellGround : CL mX3_tellGround 2 := ⟨tt_at (i := 310) (by decide +kernel) rfl, ini_RX3, by decide +kernel, by decide +kernel⟩
theorem im_X3_tellGround : Cond.instanceMethod yX3_tellGround ∈ TT ∧ Cond.selects RX3 yX3_tellGround yX3_tellGround ∈ TT := ⟨tt_at (i := 308) (by decide +kernel) rfl, tt_at (i := 309) (by decide +kernel) rfl⟩
abbrev mX5_bit : MD := (yX5_bit, cX5_bit, 1, some Jvm.ClassFile.FieldType.long)
theorem cl_X5_bit : CL mX5_bit 1 := ⟨tt_at (i := 313) (by decide +kernel) rfl, ini_RX5, by decide +kernel, by decide +kernel⟩
theorem sm_X5_bit : Cond.static yX5_bit ∈ TT := tt_at (i := 312) (by decide +kernel) rfl
abbrev mX3_readNumbers : MD := (yX3_readNumbers, cX3_readNumbers, 4, some Jvm.ClassFile.FieldType.boolean)
theorem cl_X3_readNumbers : CL mX3_readNumbers 0 := ⟨tt_at (i := 317) (by decide +kernel) rfl, ini_RX3, by decide +kernel, by decide +kernel⟩
theorem im_X3_readNumbers : Cond.instanceMethod yX3_readNumbers ∈ TT ∧ Cond.selects RX3 yX3_readNumbers yX3_readNumbers ∈ TT := ⟨tt_at (i := 315) (by decide +kernel) rfl, tt_at (i := 316) (by decide +kernel) rfl⟩
abbrev mX3_readNumber : MD := (yX3_readNumber, cX3_readNumber, 2, some Jvm.ClassFile.FieldType.int)
theorem cl_X3_readNumber : CL mX3_readNumber 0 := ⟨tt_at (i := 321) (by decide +kernel) rfl, ini_RX3, by decide +kernel, by decide +kernel⟩
theorem im_X3_readNumber : Cond.instanceMethod yX3_readNumber ∈ TT ∧ Cond.selects RX3 yX3_readNumber yX3_readNumber ∈ TT := ⟨tt_at (i := 319) (by decide +kernel) rfl, tt_at (i := 320) (by decide +kernel) rfl⟩
abbrev mX3_isFigureNext : MD := (yX3_isFigureNext, cX3_isFigureNext, 1, some Jvm.ClassFile.FieldType.boolean)
theorem cl_X3_isFigureNext : CL mX3_isFigureNext 0 := ⟨tt_at (i := 325) (by decide +kernel) rfl, ini_RX3, by decide +kernel, by decide +kernel⟩
theorem im_X3_isFigureNext : Cond.instanceMethod yX3_isFigureNext ∈ TT ∧ Cond.selects RX3 yX3_isFigureNext yX3_isFigureNext ∈ TT := ⟨tt_at (i := 323) (by decide +kernel) rfl, tt_at (i := 324) (by decide +kernel) rfl⟩
abbrev mX3_giveCells : MD := (yX3_giveCells, cX3_giveCells, 2, some Jvm.ClassFile.FieldType.boolean)
theorem cl_X3_giveCells : CL mX3_giveCells 0 := ⟨tt_at (i := 329) (by decide +kernel) rfl, ini_RX3, by decide +kernel, by decide +kernel⟩
theorem im_X3_giveCells : Cond.instanceMethod yX3_giveCells ∈ TT ∧ Cond.selects RX3 yX3_giveCells yX3_giveCells ∈ TT := ⟨tt_at (i := 327) (by decide +kernel) rfl, tt_at (i := 328) (by decide +kernel) rfl⟩
abbrev mX0_holds : MD := (yX0_holds, cX0_holds, 2, some Jvm.ClassFile.FieldType.boolean)
theorem cl_X0_holds : CL mX0_holds 1 := ⟨tt_at (i := 333) (by decide +kernel) rfl, ini_RX0, by decide +kernel, by decide +kernel⟩
theorem im_X0_holds : Cond.instanceMethod yX0_holds ∈ TT ∧ Cond.selects RX0 yX0_holds yX0_holds ∈ TT := ⟨tt_at (i := 331) (by decide +kernel) rfl, tt_at (i := 332) (by decide +kernel) rfl⟩
abbrev mX3_plantRow : MD := (yX3_plantRow, cX3_plantRow, 3, some Jvm.ClassFile.FieldType.boolean)
theorem cl_X3_plantRow : CL mX3_plantRow 0 := ⟨tt_at (i := 337) (by decide +kernel) rfl, ini_RX3, by decide +kernel, by decide +kernel⟩
theorem im_X3_plantRow : Cond.instanceMethod yX3_plantRow ∈ TT ∧ Cond.selects RX3 yX3_plantRow yX3_plantRow ∈ TT := ⟨tt_at (i := 335) (by decide +kernel) rfl, tt_at (i := 336) (by decide +kernel) rfl⟩
abbrev mX3_plantTree : MD := (yX3_plantTree, cX3_plantTree, 3, some Jvm.ClassFile.FieldType.boolean)
theorem cl_X3_plantTree : CL mX3_plantTree 2 := ⟨tt_at (i := 341) (by decide +kernel) rfl, ini_RX3, by decide +kernel, by decide +kernel⟩
theorem im_X3_plantTree : Cond.instanceMethod yX3_plantTree ∈ TT ∧ Cond.selects RX3 yX3_plantTree yX3_plantTree ∈ TT := ⟨tt_at (i := 339) (by decide +kernel) rfl, tt_at (i := 340) (by decide +kernel) rfl⟩
abbrev mX5_contains : MD := (yX5_contains, cX5_contains, 3, some Jvm.ClassFile.FieldType.boolean)
theorem cl_X5_contains : CL mX5_contains 2 := ⟨tt_at (i := 345) (by decide +kernel) rfl, ini_RX5, by decide +kernel, by decide +kernel⟩
theorem sm_X5_contains : Cond.static yX5_contains ∈ TT := tt_at (i := 344) (by decide +kernel) rfl
abbrev mX4_treeAt : MD := (yX4_treeAt, cX4_treeAt, 2, some Jvm.ClassFile.FieldType.int)
theorem cl_X4_treeAt : CL mX4_treeAt 1 := ⟨tt_at (i := 349) (by decide +kernel) rfl, ini_RX4, by decide +kernel, by decide +kernel⟩
theorem im_X4_treeAt : Cond.instanceMethod yX4_treeAt ∈ TT ∧ Cond.selects RX4 yX4_treeAt yX4_treeAt ∈ TT := ⟨tt_at (i := 347) (by decide +kernel) rfl, tt_at (i := 348) (by decide +kernel) rfl⟩
abbrev mX0_isBesideOne : MD := (yX0_isBesideOne, cX0_isBesideOne, 5, some Jvm.ClassFile.FieldType.boolean)
theorem cl_X0_isBesideOne : CL mX0_isBesideOne 2 := ⟨tt_at (i := 353) (by decide +kernel) rfl, ini_RX0, by decide +kernel, by decide +kernel⟩
theorem im_X0_isBesideOne : Cond.instanceMethod yX0_isBesideOne ∈ TT ∧ Cond.selects RX0 yX0_isBesideOne yX0_isBesideOne ∈ TT := ⟨tt_at (i := 351) (by decide +kernel) rfl, tt_at (i := 352) (by decide +kernel) rfl⟩
abbrev mX0_nextBy : MD := (yX0_nextBy, cX0_nextBy, 4, some Jvm.ClassFile.FieldType.int)
theorem cl_X0_nextBy : CL mX0_nextBy 2 := ⟨tt_at (i := 357) (by decide +kernel) rfl, ini_RX0, by decide +kernel, by decide +kernel⟩
theorem im_X0_nextBy : Cond.instanceMethod yX0_nextBy ∈ TT ∧ Cond.selects RX0 yX0_nextBy yX0_nextBy ∈ TT := ⟨tt_at (i := 355) (by decide +kernel) rfl, tt_at (i := 356) (by decide +kernel) rfl⟩
abbrev mX4_plant : MD := (yX4_plant, cX4_plant, 2, none)
theorem cl_X4_plant : CL mX4_plant 1 := ⟨tt_at (i := 362) (by decide +kernel) rfl, ini_RX4, by decide +kernel, by decide +kernel⟩
theorem im_X4_plant : Cond.instanceMethod yX4_plant ∈ TT ∧ Cond.selects RX4 yX4_plant yX4_plant ∈ TT := ⟨tt_at (i := 360) (by decide +kernel) rfl, tt_at (i := 361) (by decide +kernel) rfl⟩
abbrev mX0_copyFrom : MD := (yX0_copyFrom, cX0_copyFrom, 3, none)
theorem cl_X0_copyFrom : CL mX0_copyFrom 1 := ⟨tt_at (i := 366) (by decide +kernel) rfl, ini_RX0, by decide +kernel, by decide +kernel⟩
theorem im_X0_copyFrom : Cond.instanceMethod yX0_copyFrom ∈ TT ∧ Cond.selects RX0 yX0_copyFrom yX0_copyFrom ∈ TT := ⟨tt_at (i := 364) (by decide +kernel) rfl, tt_at (i := 365) (by decide +kernel) rfl⟩
abbrev mX1_copyFrom : MD := (yX1_copyFrom, cX1_copyFrom, 3, none)
theorem cl_X1_copyFrom : CL mX1_copyFrom 1 := ⟨tt_at (i := 370) (by decide +kernel) rfl, ini_RX1, by decide +kernel, by decide +kernel⟩
theorem im_X1_copyFrom : Cond.instanceMethod yX1_copyFrom ∈ TT ∧ Cond.selects RX1 yX1_copyFrom yX1_copyFrom ∈ TT := ⟨tt_at (i := 368) (by decide +kernel) rfl, tt_at (i := 369) (by decide +kernel) rfl⟩
abbrev mX4_copyFrom : MD := (yX4_copyFrom, cX4_copyFrom, 3, none)
theorem cl_X4_copyFrom : CL mX4_copyFrom 1 := ⟨tt_at (i := 374) (by decide +kernel) rfl, ini_RX4, by decide +kernel, by decide +kernel⟩
theorem im_X4_copyFrom : Cond.instanceMethod yX4_copyFrom ∈ TT ∧ Cond.selects RX4 yX4_copyFrom yX4_copyFrom ∈ TT := ⟨tt_at (i := 372) (by decide +kernel) rfl, tt_at (i := 373) (by decide +kernel) rfl⟩
abbrev mX5_write : MD := (yX5_write, cX5_write, 2, some Jvm.ClassFile.FieldType.int)
theorem cl_X5_write : CL mX5_write 1 := ⟨tt_at (i := 423) (by decide +kernel) rfl, ini_RX5, by decide +kernel, by decide +kernel⟩
theorem im_X5_write : Cond.instanceMethod yX5_write ∈ TT ∧ Cond.selects RX5 yX5_write yX5_write ∈ TT := ⟨tt_at (i := 421) (by decide +kernel) rfl, tt_at (i := 422) (by decide +kernel) rfl⟩
abbrev mX5_wipe : MD := (yX5_wipe, cX5_wipe, 2, some Jvm.ClassFile.FieldType.int)
theorem cl_X5_wipe : CL mX5_wipe 0 := ⟨tt_at (i := 427) (by decide +kernel) rfl, ini_RX5, by decide +kernel, by decide +kernel⟩
theorem im_X5_wipe : Cond.instanceMethod yX5_wipe ∈ TT ∧ Cond.selects RX5 yX5_wipe yX5_wipe ∈ TT := ⟨tt_at (i := 425) (by decide +kernel) rfl, tt_at (i := 426) (by decide +kernel) rfl⟩
abbrev mX5_fault : MD := (yX5_fault, cX5_fault, 1, some Jvm.ClassFile.FieldType.int)
theorem cl_X5_fault : CL mX5_fault 0 := ⟨tt_at (i := 431) (by decide +kernel) rfl, ini_RX5, by decide +kernel, by decide +kernel⟩
theorem im_X5_fault : Cond.instanceMethod yX5_fault ∈ TT ∧ Cond.selects RX5 yX5_fault yX5_fault ∈ TT := ⟨tt_at (i := 429) (by decide +kernel) rfl, tt_at (i := 430) (by decide +kernel) rfl⟩
abbrev mX5_lay : MD := (yX5_lay, cX5_lay, 1, some Jvm.ClassFile.FieldType.int)
theorem cl_X5_lay : CL mX5_lay 0 := ⟨tt_at (i := 435) (by decide +kernel) rfl, ini_RX5, by decide +kernel, by decide +kernel⟩
theorem im_X5_lay : Cond.instanceMethod yX5_lay ∈ TT ∧ Cond.selects RX5 yX5_lay yX5_lay ∈ TT := ⟨tt_at (i := 433) (by decide +kernel) rfl, tt_at (i := 434) (by decide +kernel) rfl⟩
abbrev mX2_clear : MD := (yX2_clear, cX2_clear, 1, none)
theorem cl_X2_clear : CL mX2_clear 0 := ⟨tt_at (i := 439) (by decide +kernel) rfl, ini_RX2, by decide +kernel, by decide +kernel⟩
theorem im_X2_clear : Cond.instanceMethod yX2_clear ∈ TT ∧ Cond.selects RX2 yX2_clear yX2_clear ∈ TT := ⟨tt_at (i := 437) (by decide +kernel) rfl, tt_at (i := 438) (by decide +kernel) rfl⟩
abbrev mX5_cell : MD := (yX5_cell, cX5_cell, 3, some Jvm.ClassFile.FieldType.int)
theorem cl_X5_cell : CL mX5_cell 2 := ⟨tt_at (i := 443) (by decide +kernel) rfl, ini_RX5, by decide +kernel, by decide +kernel⟩
theorem im_X5_cell : Cond.instanceMethod yX5_cell ∈ TT ∧ Cond.selects RX5 yX5_cell yX5_cell ∈ TT := ⟨tt_at (i := 441) (by decide +kernel) rfl, tt_at (i := 442) (by decide +kernel) rfl⟩
abbrev mX0_groundOf : MD := (yX0_groundOf, cX0_groundOf, 2, some Jvm.ClassFile.FieldType.int)
theorem cl_X0_groundOf : CL mX0_groundOf 1 := ⟨tt_at (i := 448) (by decide +kernel) rfl, ini_RX0, by decide +kernel, by decide +kernel⟩
theorem im_X0_groundOf : Cond.instanceMethod yX0_groundOf ∈ TT ∧ Cond.selects RX0 yX0_groundOf yX0_groundOf ∈ TT := ⟨tt_at (i := 446) (by decide +kernel) rfl, tt_at (i := 447) (by decide +kernel) rfl⟩
abbrev mX0_ownerOf : MD := (yX0_ownerOf, cX0_ownerOf, 2, some Jvm.ClassFile.FieldType.int)
theorem cl_X0_ownerOf : CL mX0_ownerOf 1 := ⟨tt_at (i := 452) (by decide +kernel) rfl, ini_RX0, by decide +kernel, by decide +kernel⟩
theorem im_X0_ownerOf : Cond.instanceMethod yX0_ownerOf ∈ TT ∧ Cond.selects RX0 yX0_ownerOf yX0_ownerOf ∈ TT := ⟨tt_at (i := 450) (by decide +kernel) rfl, tt_at (i := 451) (by decide +kernel) rfl⟩
abbrev mX1_standsIn : MD := (yX1_standsIn, cX1_standsIn, 3, some Jvm.ClassFile.FieldType.int)
theorem cl_X1_standsIn : CL mX1_standsIn 1 := ⟨tt_at (i := 457) (by decide +kernel) rfl, ini_RX1, by decide +kernel, by decide +kernel⟩
theorem im_X1_standsIn : Cond.instanceMethod yX1_standsIn ∈ TT ∧ Cond.selects RX1 yX1_standsIn yX1_standsIn ∈ TT := ⟨tt_at (i := 455) (by decide +kernel) rfl, tt_at (i := 456) (by decide +kernel) rfl⟩
abbrev mX4_cells : MD := (yX4_cells, cX4_cells, 4, some Jvm.ClassFile.FieldType.long)
theorem cl_X4_cells : CL mX4_cells 0 := ⟨tt_at (i := 462) (by decide +kernel) rfl, ini_RX4, by decide +kernel, by decide +kernel⟩
theorem im_X4_cells : Cond.instanceMethod yX4_cells ∈ TT ∧ Cond.selects RX4 yX4_cells yX4_cells ∈ TT := ⟨tt_at (i := 460) (by decide +kernel) rfl, tt_at (i := 461) (by decide +kernel) rfl⟩
abbrev mX5_row : MD := (yX5_row, cX5_row, 4, some Jvm.ClassFile.FieldType.int)
theorem cl_X5_row : CL mX5_row 2 := ⟨tt_at (i := 467) (by decide +kernel) rfl, ini_RX5, by decide +kernel, by decide +kernel⟩
theorem im_X5_row : Cond.instanceMethod yX5_row ∈ TT ∧ Cond.selects RX5 yX5_row yX5_row ∈ TT := ⟨tt_at (i := 465) (by decide +kernel) rfl, tt_at (i := 466) (by decide +kernel) rfl⟩
abbrev mX1_holds : MD := (yX1_holds, cX1_holds, 2, some Jvm.ClassFile.FieldType.boolean)
theorem cl_X1_holds : CL mX1_holds 1 := ⟨tt_at (i := 471) (by decide +kernel) rfl, ini_RX1, by decide +kernel, by decide +kernel⟩
theorem im_X1_holds : Cond.instanceMethod yX1_holds ∈ TT ∧ Cond.selects RX1 yX1_holds yX1_holds ∈ TT := ⟨tt_at (i := 469) (by decide +kernel) rfl, tt_at (i := 470) (by decide +kernel) rfl⟩
abbrev mX4_first : MD := (yX4_first, cX4_first, 1, some Jvm.ClassFile.FieldType.int)
theorem cl_X4_first : CL mX4_first 0 := ⟨tt_at (i := 475) (by decide +kernel) rfl, ini_RX4, by decide +kernel, by decide +kernel⟩
theorem im_X4_first : Cond.instanceMethod yX4_first ∈ TT ∧ Cond.selects RX4 yX4_first yX4_first ∈ TT := ⟨tt_at (i := 473) (by decide +kernel) rfl, tt_at (i := 474) (by decide +kernel) rfl⟩
abbrev mX1_wayOf : MD := (yX1_wayOf, cX1_wayOf, 10, some Jvm.ClassFile.FieldType.int)
theorem cl_X1_wayOf : CL mX1_wayOf 1 := ⟨tt_at (i := 479) (by decide +kernel) rfl, ini_RX1, by decide +kernel, by decide +kernel⟩
theorem im_X1_wayOf : Cond.instanceMethod yX1_wayOf ∈ TT ∧ Cond.selects RX1 yX1_wayOf yX1_wayOf ∈ TT := ⟨tt_at (i := 477) (by decide +kernel) rfl, tt_at (i := 478) (by decide +kernel) rfl⟩
abbrev mX5_tree : MD := (yX5_tree, cX5_tree, 3, some Jvm.ClassFile.FieldType.int)
theorem cl_X5_tree : CL mX5_tree 2 := ⟨tt_at (i := 487) (by decide +kernel) rfl, ini_RX5, by decide +kernel, by decide +kernel⟩
theorem im_X5_tree : Cond.instanceMethod yX5_tree ∈ TT ∧ Cond.selects RX5 yX5_tree yX5_tree ∈ TT := ⟨tt_at (i := 485) (by decide +kernel) rfl, tt_at (i := 486) (by decide +kernel) rfl⟩
abbrev mX5_has : MD := (yX5_has, cX5_has, 2, some Jvm.ClassFile.FieldType.int)
theorem cl_X5_has : CL mX5_has 1 := ⟨tt_at (i := 492) (by decide +kernel) rfl, ini_RX5, by decide +kernel, by decide +kernel⟩
theorem im_X5_has : Cond.instanceMethod yX5_has ∈ TT ∧ Cond.selects RX5 yX5_has yX5_has ∈ TT := ⟨tt_at (i := 490) (by decide +kernel) rfl, tt_at (i := 491) (by decide +kernel) rfl⟩
abbrev mX5_isOwner : MD := (yX5_isOwner, cX5_isOwner, 1, some Jvm.ClassFile.FieldType.boolean)
theorem cl_X5_isOwner : CL mX5_isOwner 1 := ⟨tt_at (i := 495) (by decide +kernel) rfl, ini_RX5, by decide +kernel, by decide +kernel⟩
theorem sm_X5_isOwner : Cond.static yX5_isOwner ∈ TT := tt_at (i := 494) (by decide +kernel) rfl
abbrev mX5_pass : MD := (yX5_pass, cX5_pass, 2, some Jvm.ClassFile.FieldType.int)
theorem cl_X5_pass : CL mX5_pass 1 := ⟨tt_at (i := 499) (by decide +kernel) rfl, ini_RX5, by decide +kernel, by decide +kernel⟩
theorem im_X5_pass : Cond.instanceMethod yX5_pass ∈ TT ∧ Cond.selects RX5 yX5_pass yX5_pass ∈ TT := ⟨tt_at (i := 497) (by decide +kernel) rfl, tt_at (i := 498) (by decide +kernel) rfl⟩
abbrev mX5_isWithin : MD := (yX5_isWithin, cX5_isWithin, 3, some Jvm.ClassFile.FieldType.boolean)
theorem cl_X5_isWithin : CL mX5_isWithin 3 := ⟨tt_at (i := 502) (by decide +kernel) rfl, ini_RX5, by decide +kernel, by decide +kernel⟩
theorem sm_X5_isWithin : Cond.static yX5_isWithin ∈ TT := tt_at (i := 501) (by decide +kernel) rfl
abbrev mX2_push : MD := (yX2_push, cX2_push, 2, none)
theorem cl_X2_push : CL mX2_push 1 := ⟨tt_at (i := 506) (by decide +kernel) rfl, ini_RX2, by decide +kernel, by decide +kernel⟩
theorem im_X2_push : Cond.instanceMethod yX2_push ∈ TT ∧ Cond.selects RX2 yX2_push yX2_push ∈ TT := ⟨tt_at (i := 504) (by decide +kernel) rfl, tt_at (i := 505) (by decide +kernel) rfl⟩
abbrev mX2_dropOldest : MD := (yX2_dropOldest, cX2_dropOldest, 3, none)
theorem cl_X2_dropOldest : CL mX2_dropOldest 0 := ⟨tt_at (i := 510) (by decide +kernel) rfl, ini_RX2, by decide +kernel, by decide +kernel⟩
theorem im_X2_dropOldest : Cond.instanceMethod yX2_dropOldest ∈ TT ∧ Cond.selects RX2 yX2_dropOldest yX2_dropOldest ∈ TT := ⟨tt_at (i := 508) (by decide +kernel) rfl, tt_at (i := 509) (by decide +kernel) rfl⟩
abbrev mX1_passYears : MD := (yX1_passYears, cX1_passYears, 4, none)
theorem cl_X1_passYears : CL mX1_passYears 1 := ⟨tt_at (i := 515) (by decide +kernel) rfl, ini_RX1, by decide +kernel, by decide +kernel⟩
theorem im_X1_passYears : Cond.instanceMethod yX1_passYears ∈ TT ∧ Cond.selects RX1 yX1_passYears yX1_passYears ∈ TT := ⟨tt_at (i := 513) (by decide +kernel) rfl, tt_at (i := 514) (by decide +kernel) rfl⟩
abbrev mX1_goYear : MD := (yX1_goYear, cX1_goYear, 3, none)
theorem cl_X1_goYear : CL mX1_goYear 1 := ⟨tt_at (i := 519) (by decide +kernel) rfl, ini_RX1, by decide +kernel, by decide +kernel⟩
theorem im_X1_goYear : Cond.instanceMethod yX1_goYear ∈ TT ∧ Cond.selects RX1 yX1_goYear yX1_goYear ∈ TT := ⟨tt_at (i := 517) (by decide +kernel) rfl, tt_at (i := 518) (by decide +kernel) rfl⟩
abbrev mX1_goRow : MD := (yX1_goRow, cX1_goRow, 5, none)
theorem cl_X1_goRow : CL mX1_goRow 1 := ⟨tt_at (i := 523) (by decide +kernel) rfl, ini_RX1, by decide +kernel, by decide +kernel⟩
theorem im_X1_goRow : Cond.instanceMethod yX1_goRow ∈ TT ∧ Cond.selects RX1 yX1_goRow yX1_goRow ∈ TT := ⟨tt_at (i := 521) (by decide +kernel) rfl, tt_at (i := 522) (by decide +kernel) rfl⟩
abbrev mX1_give : MD := (yX1_give, cX1_give, 4, none)
theorem cl_X1_give : CL mX1_give 2 := ⟨tt_at (i := 530) (by decide +kernel) rfl, ini_RX1, by decide +kernel, by decide +kernel⟩
theorem im_X1_give : Cond.instanceMethod yX1_give ∈ TT ∧ Cond.selects RX1 yX1_give yX1_give ∈ TT := ⟨tt_at (i := 528) (by decide +kernel) rfl, tt_at (i := 529) (by decide +kernel) rfl⟩
abbrev mX1_bearRow : MD := (yX1_bearRow, cX1_bearRow, 6, none)
theorem cl_X1_bearRow : CL mX1_bearRow 1 := ⟨tt_at (i := 535) (by decide +kernel) rfl, ini_RX1, by decide +kernel, by decide +kernel⟩
theorem im_X1_bearRow : Cond.instanceMethod yX1_bearRow ∈ TT ∧ Cond.selects RX1 yX1_bearRow yX1_bearRow ∈ TT := ⟨tt_at (i := 533) (by decide +kernel) rfl, tt_at (i := 534) (by decide +kernel) rfl⟩
abbrev mX5_dig : MD := (yX5_dig, cX5_dig, 2, some Jvm.ClassFile.FieldType.int)
theorem cl_X5_dig : CL mX5_dig 1 := ⟨tt_at (i := 540) (by decide +kernel) rfl, ini_RX5, by decide +kernel, by decide +kernel⟩
theorem im_X5_dig : Cond.instanceMethod yX5_dig ∈ TT ∧ Cond.selects RX5 yX5_dig yX5_dig ∈ TT := ⟨tt_at (i := 538) (by decide +kernel) rfl, tt_at (i := 539) (by decide +kernel) rfl⟩
abbrev mX1_canDig : MD := (yX1_canDig, cX1_canDig, 2, some Jvm.ClassFile.FieldType.boolean)
theorem cl_X1_canDig : CL mX1_canDig 1 := ⟨tt_at (i := 544) (by decide +kernel) rfl, ini_RX1, by decide +kernel, by decide +kernel⟩
theorem im_X1_canDig : Cond.instanceMethod yX1_canDig ∈ TT ∧ Cond.selects RX1 yX1_canDig yX1_canDig ∈ TT := ⟨tt_at (i := 542) (by decide +kernel) rfl, tt_at (i := 543) (by decide +kernel) rfl⟩
abbrev mX1_digIn : MD := (yX1_digIn, cX1_digIn, 2, none)
theorem cl_X1_digIn : CL mX1_digIn 1 := ⟨tt_at (i := 548) (by decide +kernel) rfl, ini_RX1, by decide +kernel, by decide +kernel⟩
theorem im_X1_digIn : Cond.instanceMethod yX1_digIn ∈ TT ∧ Cond.selects RX1 yX1_digIn yX1_digIn ∈ TT := ⟨tt_at (i := 546) (by decide +kernel) rfl, tt_at (i := 547) (by decide +kernel) rfl⟩
abbrev mJ13_bitCount_95d88 : MD := (yJ13_bitCount_95d88, cJ13_bitCount_95d88, 2, some Jvm.ClassFile.FieldType.int)
theorem cl_J13_bitCount_95d88 : CL mJ13_bitCount_95d88 1 := ⟨tt_at (i := 552) (by decide +kernel) rfl, ini_RJ13, by decide +kernel, by decide +kernel⟩
theorem sm_J13_bitCount_95d88 : Cond.static yJ13_bitCount_95d88 ∈ TT := tt_at (i := 551) (by decide +kernel) rfl
abbrev mX5_fill : MD := (yX5_fill, cX5_fill, 2, some Jvm.ClassFile.FieldType.int)
theorem cl_X5_fill : CL mX5_fill 1 := ⟨tt_at (i := 559) (by decide +kernel) rfl, ini_RX5, by decide +kernel, by decide +kernel⟩
theorem im_X5_fill : Cond.instanceMethod yX5_fill ∈ TT ∧ Cond.selects RX5 yX5_fill yX5_fill ∈ TT := ⟨tt_at (i := 557) (by decide +kernel) rfl, tt_at (i := 558) (by decide +kernel) rfl⟩
abbrev mX1_fillIn : MD := (yX1_fillIn, cX1_fillIn, 2, none)
theorem cl_X1_fillIn : CL mX1_fillIn 1 := ⟨tt_at (i := 563) (by decide +kernel) rfl, ini_RX1, by decide +kernel, by decide +kernel⟩
theorem im_X1_fillIn : Cond.instanceMethod yX1_fillIn ∈ TT ∧ Cond.selects RX1 yX1_fillIn yX1_fillIn ∈ TT := ⟨tt_at (i := 561) (by decide +kernel) rfl, tt_at (i := 562) (by decide +kernel) rfl⟩
abbrev mX5_leave : MD := (yX5_leave, cX5_leave, 2, some Jvm.ClassFile.FieldType.int)
theorem cl_X5_leave : CL mX5_leave 1 := ⟨tt_at (i := 567) (by decide +kernel) rfl, ini_RX5, by decide +kernel, by decide +kernel⟩
theorem im_X5_leave : Cond.instanceMethod yX5_leave ∈ TT ∧ Cond.selects RX5 yX5_leave yX5_leave ∈ TT := ⟨tt_at (i := 565) (by decide +kernel) rfl, tt_at (i := 566) (by decide +kernel) rfl⟩
abbrev mX1_leaveLast : MD := (yX1_leaveLast, cX1_leaveLast, 3, some Jvm.ClassFile.FieldType.int)
theorem cl_X1_leaveLast : CL mX1_leaveLast 1 := ⟨tt_at (i := 571) (by decide +kernel) rfl, ini_RX1, by decide +kernel, by decide +kernel⟩
theorem im_X1_leaveLast : Cond.instanceMethod yX1_leaveLast ∈ TT ∧ Cond.selects RX1 yX1_leaveLast yX1_leaveLast ∈ TT := ⟨tt_at (i := 569) (by decide +kernel) rfl, tt_at (i := 570) (by decide +kernel) rfl⟩
abbrev mX5_undo : MD := (yX5_undo, cX5_undo, 1, some Jvm.ClassFile.FieldType.int)
theorem cl_X5_undo : CL mX5_undo 0 := ⟨tt_at (i := 575) (by decide +kernel) rfl, ini_RX5, by decide +kernel, by decide +kernel⟩
theorem im_X5_undo : Cond.instanceMethod yX5_undo ∈ TT ∧ Cond.selects RX5 yX5_undo yX5_undo ∈ TT := ⟨tt_at (i := 573) (by decide +kernel) rfl, tt_at (i := 574) (by decide +kernel) rfl⟩
abbrev mX2_pop : MD := (yX2_pop, cX2_pop, 2, none)
theorem cl_X2_pop : CL mX2_pop 1 := ⟨tt_at (i := 579) (by decide +kernel) rfl, ini_RX2, by decide +kernel, by decide +kernel⟩
theorem im_X2_pop : Cond.instanceMethod yX2_pop ∈ TT ∧ Cond.selects RX2 yX2_pop yX2_pop ∈ TT := ⟨tt_at (i := 577) (by decide +kernel) rfl, tt_at (i := 578) (by decide +kernel) rfl⟩
abbrev mX5_behind : MD := (yX5_behind, cX5_behind, 3, some Jvm.ClassFile.FieldType.int)
theorem cl_X5_behind : CL mX5_behind 2 := ⟨tt_at (i := 583) (by decide +kernel) rfl, ini_RX5, by decide +kernel, by decide +kernel⟩
theorem im_X5_behind : Cond.instanceMethod yX5_behind ∈ TT ∧ Cond.selects RX5 yX5_behind yX5_behind ∈ TT := ⟨tt_at (i := 581) (by decide +kernel) rfl, tt_at (i := 582) (by decide +kernel) rfl⟩
abbrev mX5_firstTreeBehind : MD := (yX5_firstTreeBehind, cX5_firstTreeBehind, 6, some Jvm.ClassFile.FieldType.int)
theorem cl_X5_firstTreeBehind : CL mX5_firstTreeBehind 3 := ⟨tt_at (i := 587) (by decide +kernel) rfl, ini_RX5, by decide +kernel, by decide +kernel⟩
theorem im_X5_firstTreeBehind : Cond.instanceMethod yX5_firstTreeBehind ∈ TT ∧ Cond.selects RX5 yX5_firstTreeBehind yX5_firstTreeBehind ∈ TT := ⟨tt_at (i := 586) (by decide +kernel) rfl, tt_at (i := 0) (by decide +kernel) rfl⟩
abbrev mX5_wealth : MD := (yX5_wealth, cX5_wealth, 3, some Jvm.ClassFile.FieldType.int)
theorem cl_X5_wealth : CL mX5_wealth 2 := ⟨tt_at (i := 592) (by decide +kernel) rfl, ini_RX5, by decide +kernel, by decide +kernel⟩
theorem im_X5_wealth : Cond.instanceMethod yX5_wealth ∈ TT ∧ Cond.selects RX5 yX5_wealth yX5_wealth ∈ TT := ⟨tt_at (i := 590) (by decide +kernel) rfl, tt_at (i := 591) (by decide +kernel) rfl⟩
abbrev mX5_ownedBehind : MD := (yX5_ownedBehind, cX5_ownedBehind, 5, some Jvm.ClassFile.FieldType.int)
theorem cl_X5_ownedBehind : CL mX5_ownedBehind 3 := ⟨tt_at (i := 596) (by decide +kernel) rfl, ini_RX5, by decide +kernel, by decide +kernel⟩
theorem im_X5_ownedBehind : Cond.instanceMethod yX5_ownedBehind ∈ TT ∧ Cond.selects RX5 yX5_ownedBehind yX5_ownedBehind ∈ TT := ⟨tt_at (i := 595) (by decide +kernel) rfl, tt_at (i := 1) (by decide +kernel) rfl⟩
abbrev mX5_comes : MD := (yX5_comes, cX5_comes, 4, some Jvm.ClassFile.FieldType.int)
theorem cl_X5_comes : CL mX5_comes 2 := ⟨tt_at (i := 600) (by decide +kernel) rfl, ini_RX5, by decide +kernel, by decide +kernel⟩
theorem im_X5_comes : Cond.instanceMethod yX5_comes ∈ TT ∧ Cond.selects RX5 yX5_comes yX5_comes ∈ TT := ⟨tt_at (i := 598) (by decide +kernel) rfl, tt_at (i := 599) (by decide +kernel) rfl⟩
abbrev mX5_meet : MD := (yX5_meet, cX5_meet, 4, some Jvm.ClassFile.FieldType.int)
theorem cl_X5_meet : CL mX5_meet 2 := ⟨tt_at (i := 604) (by decide +kernel) rfl, ini_RX5, by decide +kernel, by decide +kernel⟩
theorem im_X5_meet : Cond.instanceMethod yX5_meet ∈ TT ∧ Cond.selects RX5 yX5_meet yX5_meet ∈ TT := ⟨tt_at (i := 602) (by decide +kernel) rfl, tt_at (i := 603) (by decide +kernel) rfl⟩
abbrev mX1_areSideBySide : MD := (yX1_areSideBySide, cX1_areSideBySide, 6, some Jvm.ClassFile.FieldType.boolean)
theorem cl_X1_areSideBySide : CL mX1_areSideBySide 2 := ⟨tt_at (i := 608) (by decide +kernel) rfl, ini_RX1, by decide +kernel, by decide +kernel⟩
theorem im_X1_areSideBySide : Cond.instanceMethod yX1_areSideBySide ∈ TT ∧ Cond.selects RX1 yX1_areSideBySide yX1_areSideBySide ∈ TT := ⟨tt_at (i := 606) (by decide +kernel) rfl, tt_at (i := 607) (by decide +kernel) rfl⟩
abbrev mX5_again : MD := (yX5_again, cX5_again, 2, some Jvm.ClassFile.FieldType.int)
theorem cl_X5_again : CL mX5_again 0 := ⟨tt_at (i := 612) (by decide +kernel) rfl, ini_RX5, by decide +kernel, by decide +kernel⟩
theorem im_X5_again : Cond.instanceMethod yX5_again ∈ TT ∧ Cond.selects RX5 yX5_again yX5_again ∈ TT := ⟨tt_at (i := 610) (by decide +kernel) rfl, tt_at (i := 611) (by decide +kernel) rfl⟩
abbrev mX1_standsAs : MD := (yX1_standsAs, cX1_standsAs, 4, some Jvm.ClassFile.FieldType.boolean)
theorem cl_X1_standsAs : CL mX1_standsAs 1 := ⟨tt_at (i := 616) (by decide +kernel) rfl, ini_RX1, by decide +kernel, by decide +kernel⟩
theorem im_X1_standsAs : Cond.instanceMethod yX1_standsAs ∈ TT ∧ Cond.selects RX1 yX1_standsAs yX1_standsAs ∈ TT := ⟨tt_at (i := 614) (by decide +kernel) rfl, tt_at (i := 615) (by decide +kernel) rfl⟩
abbrev mX4_standsAs : MD := (yX4_standsAs, cX4_standsAs, 3, some Jvm.ClassFile.FieldType.boolean)
theorem cl_X4_standsAs : CL mX4_standsAs 1 := ⟨tt_at (i := 620) (by decide +kernel) rfl, ini_RX4, by decide +kernel, by decide +kernel⟩
theorem im_X4_standsAs : Cond.instanceMethod yX4_standsAs ∈ TT ∧ Cond.selects RX4 yX4_standsAs yX4_standsAs ∈ TT := ⟨tt_at (i := 618) (by decide +kernel) rfl, tt_at (i := 619) (by decide +kernel) rfl⟩
abbrev mX5_ditches : MD := (yX5_ditches, cX5_ditches, 6, some Jvm.ClassFile.FieldType.int)
theorem cl_X5_ditches : CL mX5_ditches 4 := ⟨tt_at (i := 624) (by decide +kernel) rfl, ini_RX5, by decide +kernel, by decide +kernel⟩
theorem im_X5_ditches : Cond.instanceMethod yX5_ditches ∈ TT ∧ Cond.selects RX5 yX5_ditches yX5_ditches ∈ TT := ⟨tt_at (i := 622) (by decide +kernel) rfl, tt_at (i := 623) (by decide +kernel) rfl⟩
abbrev mX5_noneOrOneDitch : MD := (yX5_noneOrOneDitch, cX5_noneOrOneDitch, 7, some Jvm.ClassFile.FieldType.int)
theorem cl_X5_noneOrOneDitch : CL mX5_noneOrOneDitch 3 := ⟨tt_at (i := 628) (by decide +kernel) rfl, ini_RX5, by decide +kernel, by decide +kernel⟩
theorem im_X5_noneOrOneDitch : Cond.instanceMethod yX5_noneOrOneDitch ∈ TT ∧ Cond.selects RX5 yX5_noneOrOneDitch yX5_noneOrOneDitch ∈ TT := ⟨tt_at (i := 627) (by decide +kernel) rfl, tt_at (i := 2) (by decide +kernel) rfl⟩
abbrev mX0_cells : MD := (yX0_cells, cX0_cells, 1, some Jvm.ClassFile.FieldType.int)
theorem cl_X0_cells : CL mX0_cells 0 := ⟨tt_at (i := 632) (by decide +kernel) rfl, ini_RX0, by decide +kernel, by decide +kernel⟩
theorem im_X0_cells : Cond.instanceMethod yX0_cells ∈ TT ∧ Cond.selects RX0 yX0_cells yX0_cells ∈ TT := ⟨tt_at (i := 630) (by decide +kernel) rfl, tt_at (i := 631) (by decide +kernel) rfl⟩
abbrev mX5_twoDitches : MD := (yX5_twoDitches, cX5_twoDitches, 6, some Jvm.ClassFile.FieldType.int)
theorem cl_X5_twoDitches : CL mX5_twoDitches 3 := ⟨tt_at (i := 637) (by decide +kernel) rfl, ini_RX5, by decide +kernel, by decide +kernel⟩
theorem im_X5_twoDitches : Cond.instanceMethod yX5_twoDitches ∈ TT ∧ Cond.selects RX5 yX5_twoDitches yX5_twoDitches ∈ TT := ⟨tt_at (i := 636) (by decide +kernel) rfl, tt_at (i := 3) (by decide +kernel) rfl⟩
abbrev mX5_best : MD := (yX5_best, cX5_best, 8, some Jvm.ClassFile.FieldType.int)
theorem cl_X5_best : CL mX5_best 3 := ⟨tt_at (i := 641) (by decide +kernel) rfl, ini_RX5, by decide +kernel, by decide +kernel⟩
theorem im_X5_best : Cond.instanceMethod yX5_best ∈ TT ∧ Cond.selects RX5 yX5_best yX5_best ∈ TT := ⟨tt_at (i := 639) (by decide +kernel) rfl, tt_at (i := 640) (by decide +kernel) rfl⟩
abbrev mX5_see : MD := (yX5_see, cX5_see, 4, some Jvm.ClassFile.FieldType.int)
theorem cl_X5_see : CL mX5_see 3 := ⟨tt_at (i := 645) (by decide +kernel) rfl, ini_RX5, by decide +kernel, by decide +kernel⟩
theorem im_X5_see : Cond.instanceMethod yX5_see ∈ TT ∧ Cond.selects RX5 yX5_see yX5_see ∈ TT := ⟨tt_at (i := 643) (by decide +kernel) rfl, tt_at (i := 644) (by decide +kernel) rfl⟩
abbrev mX5_forget : MD := (yX5_forget, cX5_forget, 2, some Jvm.ClassFile.FieldType.int)
theorem cl_X5_forget : CL mX5_forget 0 := ⟨tt_at (i := 649) (by decide +kernel) rfl, ini_RX5, by decide +kernel, by decide +kernel⟩
theorem im_X5_forget : Cond.instanceMethod yX5_forget ∈ TT ∧ Cond.selects RX5 yX5_forget yX5_forget ∈ TT := ⟨tt_at (i := 647) (by decide +kernel) rfl, tt_at (i := 648) (by decide +kernel) rfl⟩
abbrev mX5_fits : MD := (yX5_fits, cX5_fits, 5, some Jvm.ClassFile.FieldType.int)
theorem cl_X5_fits : CL mX5_fits 2 := ⟨tt_at (i := 653) (by decide +kernel) rfl, ini_RX5, by decide +kernel, by decide +kernel⟩
theorem im_X5_fits : Cond.instanceMethod yX5_fits ∈ TT ∧ Cond.selects RX5 yX5_fits yX5_fits ∈ TT := ⟨tt_at (i := 651) (by decide +kernel) rfl, tt_at (i := 652) (by decide +kernel) rfl⟩
abbrev mX5_allSeenComes : MD := (yX5_allSeenComes, cX5_allSeenComes, 5, some Jvm.ClassFile.FieldType.boolean)
theorem cl_X5_allSeenComes : CL mX5_allSeenComes 1 := ⟨tt_at (i := 657) (by decide +kernel) rfl, ini_RX5, by decide +kernel, by decide +kernel⟩
theorem im_X5_allSeenComes : Cond.instanceMethod yX5_allSeenComes ∈ TT ∧ Cond.selects RX5 yX5_allSeenComes yX5_allSeenComes ∈ TT := ⟨tt_at (i := 656) (by decide +kernel) rfl, tt_at (i := 4) (by decide +kernel) rfl⟩
abbrev mX5_frost : MD := (yX5_frost, cX5_frost, 11, some Jvm.ClassFile.FieldType.int)
theorem cl_X5_frost : CL mX5_frost 5 := ⟨tt_at (i := 661) (by decide +kernel) rfl, ini_RX5, by decide +kernel, by decide +kernel⟩
theorem im_X5_frost : Cond.instanceMethod yX5_frost ∈ TT ∧ Cond.selects RX5 yX5_frost yX5_frost ∈ TT := ⟨tt_at (i := 659) (by decide +kernel) rfl, tt_at (i := 660) (by decide +kernel) rfl⟩
abbrev mX5_casesOfFrost : MD := (yX5_casesOfFrost, cX5_casesOfFrost, 11, some Jvm.ClassFile.FieldType.long)
theorem cl_X5_casesOfFrost : CL mX5_casesOfFrost 4 := ⟨tt_at (i := 665) (by decide +kernel) rfl, ini_RX5, by decide +kernel, by decide +kernel⟩
theorem im_X5_casesOfFrost : Cond.instanceMethod yX5_casesOfFrost ∈ TT ∧ Cond.selects RX5 yX5_casesOfFrost yX5_casesOfFrost ∈ TT := ⟨tt_at (i := 664) (by decide +kernel) rfl, tt_at (i := 5) (by decide +kernel) rfl⟩
abbrev mX5_firstTreeOfFrost : MD := (yX5_firstTreeOfFrost, cX5_firstTreeOfFrost, 5, some Jvm.ClassFile.FieldType.int)
theorem cl_X5_firstTreeOfFrost : CL mX5_firstTreeOfFrost 3 := ⟨tt_at (i := 669) (by decide +kernel) rfl, ini_RX5, by decide +kernel, by decide +kernel⟩
theorem im_X5_firstTreeOfFrost : Cond.instanceMethod yX5_firstTreeOfFrost ∈ TT ∧ Cond.selects RX5 yX5_firstTreeOfFrost yX5_firstTreeOfFrost ∈ TT := ⟨tt_at (i := 668) (by decide +kernel) rfl, tt_at (i := 6) (by decide +kernel) rfl⟩
abbrev mX5_century : MD := (yX5_century, cX5_century, 5, some Jvm.ClassFile.FieldType.int)
theorem cl_X5_century : CL mX5_century 3 := ⟨tt_at (i := 676) (by decide +kernel) rfl, ini_RX5, by decide +kernel, by decide +kernel⟩
theorem im_X5_century : Cond.instanceMethod yX5_century ∈ TT ∧ Cond.selects RX5 yX5_century yX5_century ∈ TT := ⟨tt_at (i := 674) (by decide +kernel) rfl, tt_at (i := 675) (by decide +kernel) rfl⟩
abbrev mX5_drawOf : MD := (yX5_drawOf, cX5_drawOf, 4, some Jvm.ClassFile.FieldType.int)
theorem cl_X5_drawOf : CL mX5_drawOf 2 := ⟨tt_at (i := 679) (by decide +kernel) rfl, ini_RX5, by decide +kernel, by decide +kernel⟩
theorem sm_X5_drawOf : Cond.static yX5_drawOf ∈ TT := tt_at (i := 678) (by decide +kernel) rfl
abbrev mX5_disturbAhead : MD := (yX5_disturbAhead, cX5_disturbAhead, 5, none)
theorem cl_X5_disturbAhead : CL mX5_disturbAhead 1 := ⟨tt_at (i := 686) (by decide +kernel) rfl, ini_RX5, by decide +kernel, by decide +kernel⟩
theorem im_X5_disturbAhead : Cond.instanceMethod yX5_disturbAhead ∈ TT ∧ Cond.selects RX5 yX5_disturbAhead yX5_disturbAhead ∈ TT := ⟨tt_at (i := 685) (by decide +kernel) rfl, tt_at (i := 7) (by decide +kernel) rfl⟩
abbrev mX1_ownedByAll : MD := (yX1_ownedByAll, cX1_ownedByAll, 3, some Jvm.ClassFile.FieldType.int)
theorem cl_X1_ownedByAll : CL mX1_ownedByAll 0 := ⟨tt_at (i := 691) (by decide +kernel) rfl, ini_RX1, by decide +kernel, by decide +kernel⟩
theorem im_X1_ownedByAll : Cond.instanceMethod yX1_ownedByAll ∈ TT ∧ Cond.selects RX1 yX1_ownedByAll yX1_ownedByAll ∈ TT := ⟨tt_at (i := 689) (by decide +kernel) rfl, tt_at (i := 690) (by decide +kernel) rfl⟩
abbrev mX5_keep : MD := (yX5_keep, cX5_keep, 1, some Jvm.ClassFile.FieldType.int)
theorem cl_X5_keep : CL mX5_keep 0 := ⟨tt_at (i := 695) (by decide +kernel) rfl, ini_RX5, by decide +kernel, by decide +kernel⟩
theorem im_X5_keep : Cond.instanceMethod yX5_keep ∈ TT ∧ Cond.selects RX5 yX5_keep yX5_keep ∈ TT := ⟨tt_at (i := 693) (by decide +kernel) rfl, tt_at (i := 694) (by decide +kernel) rfl⟩
abbrev mX5_back : MD := (yX5_back, cX5_back, 1, some Jvm.ClassFile.FieldType.int)
theorem cl_X5_back : CL mX5_back 0 := ⟨tt_at (i := 699) (by decide +kernel) rfl, ini_RX5, by decide +kernel, by decide +kernel⟩
theorem im_X5_back : Cond.instanceMethod yX5_back ∈ TT ∧ Cond.selects RX5 yX5_back yX5_back ∈ TT := ⟨tt_at (i := 697) (by decide +kernel) rfl, tt_at (i := 698) (by decide +kernel) rfl⟩
abbrev mX5_count : MD := (yX5_count, cX5_count, 2, some Jvm.ClassFile.FieldType.int)
theorem cl_X5_count : CL mX5_count 1 := ⟨tt_at (i := 703) (by decide +kernel) rfl, ini_RX5, by decide +kernel, by decide +kernel⟩
theorem im_X5_count : Cond.instanceMethod yX5_count ∈ TT ∧ Cond.selects RX5 yX5_count yX5_count ∈ TT := ⟨tt_at (i := 701) (by decide +kernel) rfl, tt_at (i := 702) (by decide +kernel) rfl⟩
abbrev mX6_init : MD := (yX6_init, cX6_init, 1, none)
theorem cl_X6_init : CL mX6_init 0 := ⟨tt_at (i := 709) (by decide +kernel) rfl, ini_RX6, by decide +kernel, by decide +kernel⟩
theorem ii_X6_init : Cond.instanceMethod yX6_init ∈ TT ∧ yX6_init.name = "<init>" ∧ mX6_init.2.2.2 = none := ⟨tt_at (i := 708) (by decide +kernel) rfl, rfl, rfl⟩
abbrev mX6_begins : MD := (yX6_begins, cX6_begins, 2, none)
theorem cl_X6_begins : CL mX6_begins 0 := ⟨tt_at (i := 714) (by decide +kernel) rfl, ini_RX6, by decide +kernel, by decide +kernel⟩
theorem im_X6_begins : Cond.instanceMethod yX6_begins ∈ TT ∧ Cond.selects RX6 yX6_begins yX6_begins ∈ TT := ⟨tt_at (i := 713) (by decide +kernel) rfl, tt_at (i := 8) (by decide +kernel) rfl⟩
abbrev mX6_owns : MD := (yX6_owns, cX6_owns, 5, none)
theorem cl_X6_owns : CL mX6_owns 3 := ⟨tt_at (i := 718) (by decide +kernel) rfl, ini_RX6, by decide +kernel, by decide +kernel⟩
theorem im_X6_owns : Cond.instanceMethod yX6_owns ∈ TT ∧ Cond.selects RX6 yX6_owns yX6_owns ∈ TT := ⟨tt_at (i := 717) (by decide +kernel) rfl, tt_at (i := 9) (by decide +kernel) rfl⟩
abbrev mX6_rowOf : MD := (yX6_rowOf, cX6_rowOf, 5, none)
theorem cl_X6_rowOf : CL mX6_rowOf 3 := ⟨tt_at (i := 722) (by decide +kernel) rfl, ini_RX6, by decide +kernel, by decide +kernel⟩
theorem im_X6_rowOf : Cond.instanceMethod yX6_rowOf ∈ TT ∧ Cond.selects RX6 yX6_rowOf yX6_rowOf ∈ TT := ⟨tt_at (i := 721) (by decide +kernel) rfl, tt_at (i := 10) (by decide +kernel) rfl⟩
abbrev mX6_stands : MD := (yX6_stands, cX6_stands, 3, none)
theorem cl_X6_stands : CL mX6_stands 1 := ⟨tt_at (i := 726) (by decide +kernel) rfl, ini_RX6, by decide +kernel, by decide +kernel⟩
theorem im_X6_stands : Cond.instanceMethod yX6_stands ∈ TT ∧ Cond.selects RX6 yX6_stands yX6_stands ∈ TT := ⟨tt_at (i := 725) (by decide +kernel) rfl, tt_at (i := 11) (by decide +kernel) rfl⟩
abbrev mX6_lays : MD := (yX6_lays, cX6_lays, 2, none)
theorem cl_X6_lays : CL mX6_lays 0 := ⟨tt_at (i := 730) (by decide +kernel) rfl, ini_RX6, by decide +kernel, by decide +kernel⟩
theorem im_X6_lays : Cond.instanceMethod yX6_lays ∈ TT ∧ Cond.selects RX6 yX6_lays yX6_lays ∈ TT := ⟨tt_at (i := 729) (by decide +kernel) rfl, tt_at (i := 12) (by decide +kernel) rfl⟩
abbrev mX6_write : MD := (yX6_write, cX6_write, 2, some Jvm.ClassFile.FieldType.int)
theorem cl_X6_write : CL mX6_write 1 := ⟨tt_at (i := 777) (by decide +kernel) rfl, ini_RX6, by decide +kernel, by decide +kernel⟩
theorem im_X6_write : Cond.instanceMethod yX6_write ∈ TT ∧ Cond.selects RX6 yX6_write yX6_write ∈ TT := ⟨tt_at (i := 775) (by decide +kernel) rfl, tt_at (i := 776) (by decide +kernel) rfl⟩
abbrev mX6_in : MD := (yX6_in, cX6_in, 3, some Jvm.ClassFile.FieldType.boolean)
theorem cl_X6_in : CL mX6_in 3 := ⟨tt_at (i := 780) (by decide +kernel) rfl, ini_RX6, by decide +kernel, by decide +kernel⟩
theorem sm_X6_in : Cond.static yX6_in ∈ TT := tt_at (i := 779) (by decide +kernel) rfl
abbrev mX6_wipe : MD := (yX6_wipe, cX6_wipe, 2, some Jvm.ClassFile.FieldType.int)
theorem cl_X6_wipe : CL mX6_wipe 0 := ⟨tt_at (i := 784) (by decide +kernel) rfl, ini_RX6, by decide +kernel, by decide +kernel⟩
theorem im_X6_wipe : Cond.instanceMethod yX6_wipe ∈ TT ∧ Cond.selects RX6 yX6_wipe yX6_wipe ∈ TT := ⟨tt_at (i := 782) (by decide +kernel) rfl, tt_at (i := 783) (by decide +kernel) rfl⟩
abbrev mX6_fault : MD := (yX6_fault, cX6_fault, 1, some Jvm.ClassFile.FieldType.int)
theorem cl_X6_fault : CL mX6_fault 0 := ⟨tt_at (i := 788) (by decide +kernel) rfl, ini_RX6, by decide +kernel, by decide +kernel⟩
theorem im_X6_fault : Cond.instanceMethod yX6_fault ∈ TT ∧ Cond.selects RX6 yX6_fault yX6_fault ∈ TT := ⟨tt_at (i := 786) (by decide +kernel) rfl, tt_at (i := 787) (by decide +kernel) rfl⟩
abbrev mX6_readsAll : MD := (yX6_readsAll, cX6_readsAll, 4, some Jvm.ClassFile.FieldType.int)
theorem cl_X6_readsAll : CL mX6_readsAll 0 := ⟨tt_at (i := 792) (by decide +kernel) rfl, ini_RX6, by decide +kernel, by decide +kernel⟩
theorem im_X6_readsAll : Cond.instanceMethod yX6_readsAll ∈ TT ∧ Cond.selects RX6 yX6_readsAll yX6_readsAll ∈ TT := ⟨tt_at (i := 791) (by decide +kernel) rfl, tt_at (i := 13) (by decide +kernel) rfl⟩
abbrev mX6_readsLine : MD := (yX6_readsLine, cX6_readsLine, 3, some Jvm.ClassFile.FieldType.boolean)
theorem cl_X6_readsLine : CL mX6_readsLine 0 := ⟨tt_at (i := 796) (by decide +kernel) rfl, ini_RX6, by decide +kernel, by decide +kernel⟩
theorem im_X6_readsLine : Cond.instanceMethod yX6_readsLine ∈ TT ∧ Cond.selects RX6 yX6_readsLine yX6_readsLine ∈ TT := ⟨tt_at (i := 795) (by decide +kernel) rfl, tt_at (i := 14) (by decide +kernel) rfl⟩
abbrev mX6_letterAt : MD := (yX6_letterAt, cX6_letterAt, 2, some Jvm.ClassFile.FieldType.int)
theorem cl_X6_letterAt : CL mX6_letterAt 1 := ⟨tt_at (i := 800) (by decide +kernel) rfl, ini_RX6, by decide +kernel, by decide +kernel⟩
theorem im_X6_letterAt : Cond.instanceMethod yX6_letterAt ∈ TT ∧ Cond.selects RX6 yX6_letterAt yX6_letterAt ∈ TT := ⟨tt_at (i := 799) (by decide +kernel) rfl, tt_at (i := 15) (by decide +kernel) rfl⟩
abbrev mX6_readsOwner : MD := (yX6_readsOwner, cX6_readsOwner, 4, some Jvm.ClassFile.FieldType.boolean)
theorem cl_X6_readsOwner : CL mX6_readsOwner 0 := ⟨tt_at (i := 804) (by decide +kernel) rfl, ini_RX6, by decide +kernel, by decide +kernel⟩
theorem im_X6_readsOwner : Cond.instanceMethod yX6_readsOwner ∈ TT ∧ Cond.selects RX6 yX6_readsOwner yX6_readsOwner ∈ TT := ⟨tt_at (i := 803) (by decide +kernel) rfl, tt_at (i := 16) (by decide +kernel) rfl⟩
abbrev mX6_number : MD := (yX6_number, cX6_number, 6, some Jvm.ClassFile.FieldType.int)
theorem cl_X6_number : CL mX6_number 3 := ⟨tt_at (i := 808) (by decide +kernel) rfl, ini_RX6, by decide +kernel, by decide +kernel⟩
theorem im_X6_number : Cond.instanceMethod yX6_number ∈ TT ∧ Cond.selects RX6 yX6_number yX6_number ∈ TT := ⟨tt_at (i := 807) (by decide +kernel) rfl, tt_at (i := 17) (by decide +kernel) rfl⟩
abbrev mX6_figures : MD := (yX6_figures, cX6_figures, 4, some Jvm.ClassFile.FieldType.int)
theorem cl_X6_figures : CL mX6_figures 2 := ⟨tt_at (i := 812) (by decide +kernel) rfl, ini_RX6, by decide +kernel, by decide +kernel⟩
theorem im_X6_figures : Cond.instanceMethod yX6_figures ∈ TT ∧ Cond.selects RX6 yX6_figures yX6_figures ∈ TT := ⟨tt_at (i := 811) (by decide +kernel) rfl, tt_at (i := 18) (by decide +kernel) rfl⟩
abbrev mX6_isFigure : MD := (yX6_isFigure, cX6_isFigure, 1, some Jvm.ClassFile.FieldType.boolean)
theorem cl_X6_isFigure : CL mX6_isFigure 1 := ⟨tt_at (i := 815) (by decide +kernel) rfl, ini_RX6, by decide +kernel, by decide +kernel⟩
theorem sm_X6_isFigure : Cond.static yX6_isFigure ∈ TT := tt_at (i := 814) (by decide +kernel) rfl
abbrev mX6_readsRow : MD := (yX6_readsRow, cX6_readsRow, 9, some Jvm.ClassFile.FieldType.boolean)
theorem cl_X6_readsRow : CL mX6_readsRow 0 := ⟨tt_at (i := 819) (by decide +kernel) rfl, ini_RX6, by decide +kernel, by decide +kernel⟩
theorem im_X6_readsRow : Cond.instanceMethod yX6_readsRow ∈ TT ∧ Cond.selects RX6 yX6_readsRow yX6_readsRow ∈ TT := ⟨tt_at (i := 818) (by decide +kernel) rfl, tt_at (i := 19) (by decide +kernel) rfl⟩
abbrev mX6_isTree : MD := (yX6_isTree, cX6_isTree, 5, some Jvm.ClassFile.FieldType.boolean)
theorem cl_X6_isTree : CL mX6_isTree 1 := ⟨tt_at (i := 823) (by decide +kernel) rfl, ini_RX6, by decide +kernel, by decide +kernel⟩
theorem im_X6_isTree : Cond.instanceMethod yX6_isTree ∈ TT ∧ Cond.selects RX6 yX6_isTree yX6_isTree ∈ TT := ⟨tt_at (i := 822) (by decide +kernel) rfl, tt_at (i := 20) (by decide +kernel) rfl⟩
abbrev mX6_isNext : MD := (yX6_isNext, cX6_isNext, 4, some Jvm.ClassFile.FieldType.boolean)
theorem cl_X6_isNext : CL mX6_isNext 3 := ⟨tt_at (i := 826) (by decide +kernel) rfl, ini_RX6, by decide +kernel, by decide +kernel⟩
theorem sm_X6_isNext : Cond.static yX6_isNext ∈ TT := tt_at (i := 825) (by decide +kernel) rfl
abbrev mX6_lay : MD := (yX6_lay, cX6_lay, 1, some Jvm.ClassFile.FieldType.int)
theorem cl_X6_lay : CL mX6_lay 0 := ⟨tt_at (i := 830) (by decide +kernel) rfl, ini_RX6, by decide +kernel, by decide +kernel⟩
theorem im_X6_lay : Cond.instanceMethod yX6_lay ∈ TT ∧ Cond.selects RX6 yX6_lay yX6_lay ∈ TT := ⟨tt_at (i := 828) (by decide +kernel) rfl, tt_at (i := 829) (by decide +kernel) rfl⟩
abbrev mX6_cell : MD := (yX6_cell, cX6_cell, 3, some Jvm.ClassFile.FieldType.int)
theorem cl_X6_cell : CL mX6_cell 2 := ⟨tt_at (i := 834) (by decide +kernel) rfl, ini_RX6, by decide +kernel, by decide +kernel⟩
theorem im_X6_cell : Cond.instanceMethod yX6_cell ∈ TT ∧ Cond.selects RX6 yX6_cell yX6_cell ∈ TT := ⟨tt_at (i := 832) (by decide +kernel) rfl, tt_at (i := 833) (by decide +kernel) rfl⟩
abbrev mX6_isCell : MD := (yX6_isCell, cX6_isCell, 2, some Jvm.ClassFile.FieldType.boolean)
theorem cl_X6_isCell : CL mX6_isCell 1 := ⟨tt_at (i := 838) (by decide +kernel) rfl, ini_RX6, by decide +kernel, by decide +kernel⟩
theorem im_X6_isCell : Cond.instanceMethod yX6_isCell ∈ TT ∧ Cond.selects RX6 yX6_isCell yX6_isCell ∈ TT := ⟨tt_at (i := 837) (by decide +kernel) rfl, tt_at (i := 21) (by decide +kernel) rfl⟩
abbrev mX6_lies : MD := (yX6_lies, cX6_lies, 2, some Jvm.ClassFile.FieldType.int)
theorem cl_X6_lies : CL mX6_lies 1 := ⟨tt_at (i := 842) (by decide +kernel) rfl, ini_RX6, by decide +kernel, by decide +kernel⟩
theorem im_X6_lies : Cond.instanceMethod yX6_lies ∈ TT ∧ Cond.selects RX6 yX6_lies yX6_lies ∈ TT := ⟨tt_at (i := 841) (by decide +kernel) rfl, tt_at (i := 22) (by decide +kernel) rfl⟩
abbrev mX6_treeIn : MD := (yX6_treeIn, cX6_treeIn, 5, some Jvm.ClassFile.FieldType.int)
theorem cl_X6_treeIn : CL mX6_treeIn 1 := ⟨tt_at (i := 846) (by decide +kernel) rfl, ini_RX6, by decide +kernel, by decide +kernel⟩
theorem im_X6_treeIn : Cond.instanceMethod yX6_treeIn ∈ TT ∧ Cond.selects RX6 yX6_treeIn yX6_treeIn ∈ TT := ⟨tt_at (i := 845) (by decide +kernel) rfl, tt_at (i := 23) (by decide +kernel) rfl⟩
abbrev mX6_row : MD := (yX6_row, cX6_row, 3, some Jvm.ClassFile.FieldType.int)
theorem cl_X6_row : CL mX6_row 2 := ⟨tt_at (i := 850) (by decide +kernel) rfl, ini_RX6, by decide +kernel, by decide +kernel⟩
theorem im_X6_row : Cond.instanceMethod yX6_row ∈ TT ∧ Cond.selects RX6 yX6_row yX6_row ∈ TT := ⟨tt_at (i := 848) (by decide +kernel) rfl, tt_at (i := 849) (by decide +kernel) rfl⟩
abbrev mX6_isRow : MD := (yX6_isRow, cX6_isRow, 2, some Jvm.ClassFile.FieldType.boolean)
theorem cl_X6_isRow : CL mX6_isRow 1 := ⟨tt_at (i := 854) (by decide +kernel) rfl, ini_RX6, by decide +kernel, by decide +kernel⟩
theorem im_X6_isRow : Cond.instanceMethod yX6_isRow ∈ TT ∧ Cond.selects RX6 yX6_isRow yX6_isRow ∈ TT := ⟨tt_at (i := 853) (by decide +kernel) rfl, tt_at (i := 24) (by decide +kernel) rfl⟩
abbrev mX6_headsFor : MD := (yX6_headsFor, cX6_headsFor, 7, some Jvm.ClassFile.FieldType.int)
theorem cl_X6_headsFor : CL mX6_headsFor 1 := ⟨tt_at (i := 858) (by decide +kernel) rfl, ini_RX6, by decide +kernel, by decide +kernel⟩
theorem im_X6_headsFor : Cond.instanceMethod yX6_headsFor ∈ TT ∧ Cond.selects RX6 yX6_headsFor yX6_headsFor ∈ TT := ⟨tt_at (i := 857) (by decide +kernel) rfl, tt_at (i := 25) (by decide +kernel) rfl⟩
abbrev mX6_beside : MD := (yX6_beside, cX6_beside, 4, some Jvm.ClassFile.FieldType.int)
theorem cl_X6_beside : CL mX6_beside 2 := ⟨tt_at (i := 862) (by decide +kernel) rfl, ini_RX6, by decide +kernel, by decide +kernel⟩
theorem im_X6_beside : Cond.instanceMethod yX6_beside ∈ TT ∧ Cond.selects RX6 yX6_beside yX6_beside ∈ TT := ⟨tt_at (i := 861) (by decide +kernel) rfl, tt_at (i := 26) (by decide +kernel) rfl⟩
abbrev mX6_isOpen : MD := (yX6_isOpen, cX6_isOpen, 5, some Jvm.ClassFile.FieldType.boolean)
theorem cl_X6_isOpen : CL mX6_isOpen 2 := ⟨tt_at (i := 866) (by decide +kernel) rfl, ini_RX6, by decide +kernel, by decide +kernel⟩
theorem im_X6_isOpen : Cond.instanceMethod yX6_isOpen ∈ TT ∧ Cond.selects RX6 yX6_isOpen yX6_isOpen ∈ TT := ⟨tt_at (i := 865) (by decide +kernel) rfl, tt_at (i := 27) (by decide +kernel) rfl⟩
abbrev mX6_tree : MD := (yX6_tree, cX6_tree, 3, some Jvm.ClassFile.FieldType.int)
theorem cl_X6_tree : CL mX6_tree 2 := ⟨tt_at (i := 870) (by decide +kernel) rfl, ini_RX6, by decide +kernel, by decide +kernel⟩
theorem im_X6_tree : Cond.instanceMethod yX6_tree ∈ TT ∧ Cond.selects RX6 yX6_tree yX6_tree ∈ TT := ⟨tt_at (i := 868) (by decide +kernel) rfl, tt_at (i := 869) (by decide +kernel) rfl⟩
abbrev mX6_has : MD := (yX6_has, cX6_has, 2, some Jvm.ClassFile.FieldType.int)
theorem cl_X6_has : CL mX6_has 1 := ⟨tt_at (i := 874) (by decide +kernel) rfl, ini_RX6, by decide +kernel, by decide +kernel⟩
theorem im_X6_has : Cond.instanceMethod yX6_has ∈ TT ∧ Cond.selects RX6 yX6_has yX6_has ∈ TT := ⟨tt_at (i := 872) (by decide +kernel) rfl, tt_at (i := 873) (by decide +kernel) rfl⟩
abbrev mX6_pass : MD := (yX6_pass, cX6_pass, 3, some Jvm.ClassFile.FieldType.int)
theorem cl_X6_pass : CL mX6_pass 1 := ⟨tt_at (i := 878) (by decide +kernel) rfl, ini_RX6, by decide +kernel, by decide +kernel⟩
theorem im_X6_pass : Cond.instanceMethod yX6_pass ∈ TT ∧ Cond.selects RX6 yX6_pass yX6_pass ∈ TT := ⟨tt_at (i := 876) (by decide +kernel) rfl, tt_at (i := 877) (by decide +kernel) rfl⟩
abbrev mX6_keeps : MD := (yX6_keeps, cX6_keeps, 2, none)
theorem cl_X6_keeps : CL mX6_keeps 0 := ⟨tt_at (i := 882) (by decide +kernel) rfl, ini_RX6, by decide +kernel, by decide +kernel⟩
theorem im_X6_keeps : Cond.instanceMethod yX6_keeps ∈ TT ∧ Cond.selects RX6 yX6_keeps yX6_keeps ∈ TT := ⟨tt_at (i := 881) (by decide +kernel) rfl, tt_at (i := 28) (by decide +kernel) rfl⟩
abbrev mX6_passes : MD := (yX6_passes, cX6_passes, 6, none)
theorem cl_X6_passes : CL mX6_passes 1 := ⟨tt_at (i := 886) (by decide +kernel) rfl, ini_RX6, by decide +kernel, by decide +kernel⟩
theorem im_X6_passes : Cond.instanceMethod yX6_passes ∈ TT ∧ Cond.selects RX6 yX6_passes yX6_passes ∈ TT := ⟨tt_at (i := 885) (by decide +kernel) rfl, tt_at (i := 29) (by decide +kernel) rfl⟩
abbrev mX6_hasMate : MD := (yX6_hasMate, cX6_hasMate, 6, some Jvm.ClassFile.FieldType.boolean)
theorem cl_X6_hasMate : CL mX6_hasMate 2 := ⟨tt_at (i := 890) (by decide +kernel) rfl, ini_RX6, by decide +kernel, by decide +kernel⟩
theorem im_X6_hasMate : Cond.instanceMethod yX6_hasMate ∈ TT ∧ Cond.selects RX6 yX6_hasMate yX6_hasMate ∈ TT := ⟨tt_at (i := 889) (by decide +kernel) rfl, tt_at (i := 30) (by decide +kernel) rfl⟩
abbrev mX6_dig : MD := (yX6_dig, cX6_dig, 2, some Jvm.ClassFile.FieldType.int)
theorem cl_X6_dig : CL mX6_dig 1 := ⟨tt_at (i := 894) (by decide +kernel) rfl, ini_RX6, by decide +kernel, by decide +kernel⟩
theorem im_X6_dig : Cond.instanceMethod yX6_dig ∈ TT ∧ Cond.selects RX6 yX6_dig yX6_dig ∈ TT := ⟨tt_at (i := 892) (by decide +kernel) rfl, tt_at (i := 893) (by decide +kernel) rfl⟩
abbrev mX6_mayDig : MD := (yX6_mayDig, cX6_mayDig, 2, some Jvm.ClassFile.FieldType.boolean)
theorem cl_X6_mayDig : CL mX6_mayDig 1 := ⟨tt_at (i := 898) (by decide +kernel) rfl, ini_RX6, by decide +kernel, by decide +kernel⟩
theorem im_X6_mayDig : Cond.instanceMethod yX6_mayDig ∈ TT ∧ Cond.selects RX6 yX6_mayDig yX6_mayDig ∈ TT := ⟨tt_at (i := 897) (by decide +kernel) rfl, tt_at (i := 31) (by decide +kernel) rfl⟩
abbrev mX6_countOf : MD := (yX6_countOf, cX6_countOf, 4, some Jvm.ClassFile.FieldType.int)
theorem cl_X6_countOf : CL mX6_countOf 1 := ⟨tt_at (i := 902) (by decide +kernel) rfl, ini_RX6, by decide +kernel, by decide +kernel⟩
theorem im_X6_countOf : Cond.instanceMethod yX6_countOf ∈ TT ∧ Cond.selects RX6 yX6_countOf yX6_countOf ∈ TT := ⟨tt_at (i := 901) (by decide +kernel) rfl, tt_at (i := 32) (by decide +kernel) rfl⟩
abbrev mX6_fill : MD := (yX6_fill, cX6_fill, 2, some Jvm.ClassFile.FieldType.int)
theorem cl_X6_fill : CL mX6_fill 1 := ⟨tt_at (i := 906) (by decide +kernel) rfl, ini_RX6, by decide +kernel, by decide +kernel⟩
theorem im_X6_fill : Cond.instanceMethod yX6_fill ∈ TT ∧ Cond.selects RX6 yX6_fill yX6_fill ∈ TT := ⟨tt_at (i := 904) (by decide +kernel) rfl, tt_at (i := 905) (by decide +kernel) rfl⟩
abbrev mX6_leave : MD := (yX6_leave, cX6_leave, 2, some Jvm.ClassFile.FieldType.int)
theorem cl_X6_leave : CL mX6_leave 1 := ⟨tt_at (i := 910) (by decide +kernel) rfl, ini_RX6, by decide +kernel, by decide +kernel⟩
theorem im_X6_leave : Cond.instanceMethod yX6_leave ∈ TT ∧ Cond.selects RX6 yX6_leave yX6_leave ∈ TT := ⟨tt_at (i := 908) (by decide +kernel) rfl, tt_at (i := 909) (by decide +kernel) rfl⟩
abbrev mX6_leaves : MD := (yX6_leaves, cX6_leaves, 3, some Jvm.ClassFile.FieldType.int)
theorem cl_X6_leaves : CL mX6_leaves 1 := ⟨tt_at (i := 914) (by decide +kernel) rfl, ini_RX6, by decide +kernel, by decide +kernel⟩
theorem im_X6_leaves : Cond.instanceMethod yX6_leaves ∈ TT ∧ Cond.selects RX6 yX6_leaves yX6_leaves ∈ TT := ⟨tt_at (i := 913) (by decide +kernel) rfl, tt_at (i := 33) (by decide +kernel) rfl⟩
abbrev mX6_undo : MD := (yX6_undo, cX6_undo, 2, some Jvm.ClassFile.FieldType.int)
theorem cl_X6_undo : CL mX6_undo 0 := ⟨tt_at (i := 918) (by decide +kernel) rfl, ini_RX6, by decide +kernel, by decide +kernel⟩
theorem im_X6_undo : Cond.instanceMethod yX6_undo ∈ TT ∧ Cond.selects RX6 yX6_undo yX6_undo ∈ TT := ⟨tt_at (i := 916) (by decide +kernel) rfl, tt_at (i := 917) (by decide +kernel) rfl⟩
abbrev mX6_behind : MD := (yX6_behind, cX6_behind, 3, some Jvm.ClassFile.FieldType.int)
theorem cl_X6_behind : CL mX6_behind 2 := ⟨tt_at (i := 922) (by decide +kernel) rfl, ini_RX6, by decide +kernel, by decide +kernel⟩
theorem im_X6_behind : Cond.instanceMethod yX6_behind ∈ TT ∧ Cond.selects RX6 yX6_behind yX6_behind ∈ TT := ⟨tt_at (i := 920) (by decide +kernel) rfl, tt_at (i := 921) (by decide +kernel) rfl⟩
abbrev mX6_behindOf : MD := (yX6_behindOf, cX6_behindOf, 4, some Jvm.ClassFile.FieldType.int)
theorem cl_X6_behindOf : CL mX6_behindOf 2 := ⟨tt_at (i := 926) (by decide +kernel) rfl, ini_RX6, by decide +kernel, by decide +kernel⟩
theorem im_X6_behindOf : Cond.instanceMethod yX6_behindOf ∈ TT ∧ Cond.selects RX6 yX6_behindOf yX6_behindOf ∈ TT := ⟨tt_at (i := 925) (by decide +kernel) rfl, tt_at (i := 34) (by decide +kernel) rfl⟩
abbrev mX6_holds : MD := (yX6_holds, cX6_holds, 2, none)
theorem cl_X6_holds : CL mX6_holds 0 := ⟨tt_at (i := 930) (by decide +kernel) rfl, ini_RX6, by decide +kernel, by decide +kernel⟩
theorem im_X6_holds : Cond.instanceMethod yX6_holds ∈ TT ∧ Cond.selects RX6 yX6_holds yX6_holds ∈ TT := ⟨tt_at (i := 929) (by decide +kernel) rfl, tt_at (i := 35) (by decide +kernel) rfl⟩
abbrev mX6_lets : MD := (yX6_lets, cX6_lets, 2, none)
theorem cl_X6_lets : CL mX6_lets 0 := ⟨tt_at (i := 934) (by decide +kernel) rfl, ini_RX6, by decide +kernel, by decide +kernel⟩
theorem im_X6_lets : Cond.instanceMethod yX6_lets ∈ TT ∧ Cond.selects RX6 yX6_lets yX6_lets ∈ TT := ⟨tt_at (i := 933) (by decide +kernel) rfl, tt_at (i := 36) (by decide +kernel) rfl⟩
abbrev mX6_wealth : MD := (yX6_wealth, cX6_wealth, 3, some Jvm.ClassFile.FieldType.int)
theorem cl_X6_wealth : CL mX6_wealth 2 := ⟨tt_at (i := 938) (by decide +kernel) rfl, ini_RX6, by decide +kernel, by decide +kernel⟩
theorem im_X6_wealth : Cond.instanceMethod yX6_wealth ∈ TT ∧ Cond.selects RX6 yX6_wealth yX6_wealth ∈ TT := ⟨tt_at (i := 936) (by decide +kernel) rfl, tt_at (i := 937) (by decide +kernel) rfl⟩
abbrev mX6_comes : MD := (yX6_comes, cX6_comes, 4, some Jvm.ClassFile.FieldType.int)
theorem cl_X6_comes : CL mX6_comes 2 := ⟨tt_at (i := 942) (by decide +kernel) rfl, ini_RX6, by decide +kernel, by decide +kernel⟩
theorem im_X6_comes : Cond.instanceMethod yX6_comes ∈ TT ∧ Cond.selects RX6 yX6_comes yX6_comes ∈ TT := ⟨tt_at (i := 940) (by decide +kernel) rfl, tt_at (i := 941) (by decide +kernel) rfl⟩
abbrev mX6_meet : MD := (yX6_meet, cX6_meet, 4, some Jvm.ClassFile.FieldType.int)
theorem cl_X6_meet : CL mX6_meet 2 := ⟨tt_at (i := 946) (by decide +kernel) rfl, ini_RX6, by decide +kernel, by decide +kernel⟩
theorem im_X6_meet : Cond.instanceMethod yX6_meet ∈ TT ∧ Cond.selects RX6 yX6_meet yX6_meet ∈ TT := ⟨tt_at (i := 944) (by decide +kernel) rfl, tt_at (i := 945) (by decide +kernel) rfl⟩
abbrev mX6_areBeside : MD := (yX6_areBeside, cX6_areBeside, 7, some Jvm.ClassFile.FieldType.boolean)
theorem cl_X6_areBeside : CL mX6_areBeside 2 := ⟨tt_at (i := 950) (by decide +kernel) rfl, ini_RX6, by decide +kernel, by decide +kernel⟩
theorem im_X6_areBeside : Cond.instanceMethod yX6_areBeside ∈ TT ∧ Cond.selects RX6 yX6_areBeside yX6_areBeside ∈ TT := ⟨tt_at (i := 949) (by decide +kernel) rfl, tt_at (i := 37) (by decide +kernel) rfl⟩
abbrev mX6_again : MD := (yX6_again, cX6_again, 2, some Jvm.ClassFile.FieldType.int)
theorem cl_X6_again : CL mX6_again 0 := ⟨tt_at (i := 954) (by decide +kernel) rfl, ini_RX6, by decide +kernel, by decide +kernel⟩
theorem im_X6_again : Cond.instanceMethod yX6_again ∈ TT ∧ Cond.selects RX6 yX6_again yX6_again ∈ TT := ⟨tt_at (i := 952) (by decide +kernel) rfl, tt_at (i := 953) (by decide +kernel) rfl⟩
abbrev mX6_isAgain : MD := (yX6_isAgain, cX6_isAgain, 5, some Jvm.ClassFile.FieldType.boolean)
theorem cl_X6_isAgain : CL mX6_isAgain 0 := ⟨tt_at (i := 958) (by decide +kernel) rfl, ini_RX6, by decide +kernel, by decide +kernel⟩
theorem im_X6_isAgain : Cond.instanceMethod yX6_isAgain ∈ TT ∧ Cond.selects RX6 yX6_isAgain yX6_isAgain ∈ TT := ⟨tt_at (i := 957) (by decide +kernel) rfl, tt_at (i := 38) (by decide +kernel) rfl⟩
abbrev mX6_ditches : MD := (yX6_ditches, cX6_ditches, 7, some Jvm.ClassFile.FieldType.int)
theorem cl_X6_ditches : CL mX6_ditches 4 := ⟨tt_at (i := 962) (by decide +kernel) rfl, ini_RX6, by decide +kernel, by decide +kernel⟩
theorem im_X6_ditches : Cond.instanceMethod yX6_ditches ∈ TT ∧ Cond.selects RX6 yX6_ditches yX6_ditches ∈ TT := ⟨tt_at (i := 960) (by decide +kernel) rfl, tt_at (i := 961) (by decide +kernel) rfl⟩
abbrev mX6_brings : MD := (yX6_brings, cX6_brings, 7, some Jvm.ClassFile.FieldType.boolean)
theorem cl_X6_brings : CL mX6_brings 5 := ⟨tt_at (i := 966) (by decide +kernel) rfl, ini_RX6, by decide +kernel, by decide +kernel⟩
theorem im_X6_brings : Cond.instanceMethod yX6_brings ∈ TT ∧ Cond.selects RX6 yX6_brings yX6_brings ∈ TT := ⟨tt_at (i := 965) (by decide +kernel) rfl, tt_at (i := 39) (by decide +kernel) rfl⟩
abbrev mX6_best : MD := (yX6_best, cX6_best, 8, some Jvm.ClassFile.FieldType.int)
theorem cl_X6_best : CL mX6_best 3 := ⟨tt_at (i := 970) (by decide +kernel) rfl, ini_RX6, by decide +kernel, by decide +kernel⟩
theorem im_X6_best : Cond.instanceMethod yX6_best ∈ TT ∧ Cond.selects RX6 yX6_best yX6_best ∈ TT := ⟨tt_at (i := 968) (by decide +kernel) rfl, tt_at (i := 969) (by decide +kernel) rfl⟩
abbrev mX6_see : MD := (yX6_see, cX6_see, 4, some Jvm.ClassFile.FieldType.int)
theorem cl_X6_see : CL mX6_see 3 := ⟨tt_at (i := 974) (by decide +kernel) rfl, ini_RX6, by decide +kernel, by decide +kernel⟩
theorem im_X6_see : Cond.instanceMethod yX6_see ∈ TT ∧ Cond.selects RX6 yX6_see yX6_see ∈ TT := ⟨tt_at (i := 972) (by decide +kernel) rfl, tt_at (i := 973) (by decide +kernel) rfl⟩
abbrev mX6_forget : MD := (yX6_forget, cX6_forget, 2, some Jvm.ClassFile.FieldType.int)
theorem cl_X6_forget : CL mX6_forget 0 := ⟨tt_at (i := 978) (by decide +kernel) rfl, ini_RX6, by decide +kernel, by decide +kernel⟩
theorem im_X6_forget : Cond.instanceMethod yX6_forget ∈ TT ∧ Cond.selects RX6 yX6_forget yX6_forget ∈ TT := ⟨tt_at (i := 976) (by decide +kernel) rfl, tt_at (i := 977) (by decide +kernel) rfl⟩
abbrev mX6_fits : MD := (yX6_fits, cX6_fits, 7, some Jvm.ClassFile.FieldType.int)
theorem cl_X6_fits : CL mX6_fits 2 := ⟨tt_at (i := 982) (by decide +kernel) rfl, ini_RX6, by decide +kernel, by decide +kernel⟩
theorem im_X6_fits : Cond.instanceMethod yX6_fits ∈ TT ∧ Cond.selects RX6 yX6_fits yX6_fits ∈ TT := ⟨tt_at (i := 980) (by decide +kernel) rfl, tt_at (i := 981) (by decide +kernel) rfl⟩
abbrev mX6_isSo : MD := (yX6_isSo, cX6_isSo, 4, some Jvm.ClassFile.FieldType.boolean)
theorem cl_X6_isSo : CL mX6_isSo 1 := ⟨tt_at (i := 986) (by decide +kernel) rfl, ini_RX6, by decide +kernel, by decide +kernel⟩
theorem im_X6_isSo : Cond.instanceMethod yX6_isSo ∈ TT ∧ Cond.selects RX6 yX6_isSo yX6_isSo ∈ TT := ⟨tt_at (i := 985) (by decide +kernel) rfl, tt_at (i := 40) (by decide +kernel) rfl⟩
abbrev mX6_frost : MD := (yX6_frost, cX6_frost, 12, some Jvm.ClassFile.FieldType.int)
theorem cl_X6_frost : CL mX6_frost 5 := ⟨tt_at (i := 990) (by decide +kernel) rfl, ini_RX6, by decide +kernel, by decide +kernel⟩
theorem im_X6_frost : Cond.instanceMethod yX6_frost ∈ TT ∧ Cond.selects RX6 yX6_frost yX6_frost ∈ TT := ⟨tt_at (i := 988) (by decide +kernel) rfl, tt_at (i := 989) (by decide +kernel) rfl⟩
abbrev mX6_century : MD := (yX6_century, cX6_century, 7, some Jvm.ClassFile.FieldType.int)
theorem cl_X6_century : CL mX6_century 3 := ⟨tt_at (i := 994) (by decide +kernel) rfl, ini_RX6, by decide +kernel, by decide +kernel⟩
theorem im_X6_century : Cond.instanceMethod yX6_century ∈ TT ∧ Cond.selects RX6 yX6_century yX6_century ∈ TT := ⟨tt_at (i := 992) (by decide +kernel) rfl, tt_at (i := 993) (by decide +kernel) rfl⟩
abbrev mX6_turn : MD := (yX6_turn, cX6_turn, 5, none)
theorem cl_X6_turn : CL mX6_turn 1 := ⟨tt_at (i := 1001) (by decide +kernel) rfl, ini_RX6, by decide +kernel, by decide +kernel⟩
theorem im_X6_turn : Cond.instanceMethod yX6_turn ∈ TT ∧ Cond.selects RX6 yX6_turn yX6_turn ∈ TT := ⟨tt_at (i := 1000) (by decide +kernel) rfl, tt_at (i := 41) (by decide +kernel) rfl⟩
abbrev mX6_allHave : MD := (yX6_allHave, cX6_allHave, 1, some Jvm.ClassFile.FieldType.int)
theorem cl_X6_allHave : CL mX6_allHave 0 := ⟨tt_at (i := 1005) (by decide +kernel) rfl, ini_RX6, by decide +kernel, by decide +kernel⟩
theorem im_X6_allHave : Cond.instanceMethod yX6_allHave ∈ TT ∧ Cond.selects RX6 yX6_allHave yX6_allHave ∈ TT := ⟨tt_at (i := 1004) (by decide +kernel) rfl, tt_at (i := 42) (by decide +kernel) rfl⟩
abbrev mX6_keep : MD := (yX6_keep, cX6_keep, 2, some Jvm.ClassFile.FieldType.int)
theorem cl_X6_keep : CL mX6_keep 0 := ⟨tt_at (i := 1009) (by decide +kernel) rfl, ini_RX6, by decide +kernel, by decide +kernel⟩
theorem im_X6_keep : Cond.instanceMethod yX6_keep ∈ TT ∧ Cond.selects RX6 yX6_keep yX6_keep ∈ TT := ⟨tt_at (i := 1007) (by decide +kernel) rfl, tt_at (i := 1008) (by decide +kernel) rfl⟩
abbrev mX6_back : MD := (yX6_back, cX6_back, 2, some Jvm.ClassFile.FieldType.int)
theorem cl_X6_back : CL mX6_back 0 := ⟨tt_at (i := 1013) (by decide +kernel) rfl, ini_RX6, by decide +kernel, by decide +kernel⟩
theorem im_X6_back : Cond.instanceMethod yX6_back ∈ TT ∧ Cond.selects RX6 yX6_back yX6_back ∈ TT := ⟨tt_at (i := 1011) (by decide +kernel) rfl, tt_at (i := 1012) (by decide +kernel) rfl⟩
abbrev mX6_count : MD := (yX6_count, cX6_count, 2, some Jvm.ClassFile.FieldType.int)
theorem cl_X6_count : CL mX6_count 1 := ⟨tt_at (i := 1017) (by decide +kernel) rfl, ini_RX6, by decide +kernel, by decide +kernel⟩
theorem im_X6_count : Cond.instanceMethod yX6_count ∈ TT ∧ Cond.selects RX6 yX6_count yX6_count ∈ TT := ⟨tt_at (i := 1015) (by decide +kernel) rfl, tt_at (i := 1016) (by decide +kernel) rfl⟩
theorem kc_RL_7 : Cond.classLink RL 7 RX5 ∈ TT := tt_at (i := 57) (by decide +kernel) rfl
theorem it_RX5 : Cond.instantiable RX5 14 ∈ TT := tt_at (i := 58) (by decide +kernel) rfl
theorem ml_RL_9 : Cond.methodLink RL 9 yX5_init ∈ TT := tt_at (i := 59) (by decide +kernel) rfl
theorem oi_RX5_1 : Cond.methodLink RX5 1 objectInit ∈ TT ∧ Cond.instanceMethod objectInit ∈ TT ∧ Cond.code objectInit ⟨#[0xb1]⟩ 1 none ∈ TT := ⟨tt_at (i := 62) (by decide +kernel) rfl, tt_at (i := 63) (by decide +kernel) rfl, tt_at (i := 64) (by decide +kernel) rfl⟩
theorem kc_RX5_13 : Cond.classLink RX5 13 RX0 ∈ TT := tt_at (i := 65) (by decide +kernel) rfl
theorem it_RX0 : Cond.instantiable RX0 6 ∈ TT := tt_at (i := 66) (by decide +kernel) rfl
theorem oi_RX0_3 : Cond.methodLink RX0 3 objectInit ∈ TT ∧ Cond.instanceMethod objectInit ∈ TT ∧ Cond.code objectInit ⟨#[0xb1]⟩ 1 none ∈ TT := ⟨tt_at (i := 70) (by decide +kernel) rfl, tt_at (i := 63) (by decide +kernel) rfl, tt_at (i := 64) (by decide +kernel) rfl⟩
theorem ac_char : Cond.arrayClass .char ∈ TT := tt_at (i := 100) (by decide +kernel) rfl
theorem ac_int : Cond.arrayClass .int ∈ TT := tt_at (i := 101) (by decide +kernel) rfl
theorem kc_RX5_20 : Cond.classLink RX5 20 RX1 ∈ TT := tt_at (i := 102) (by decide +kernel) rfl
theorem it_RX1 : Cond.instantiable RX1 9 ∈ TT := tt_at (i := 103) (by decide +kernel) rfl
theorem ml_RX5_22 : Cond.methodLink RX5 22 yX1_init ∈ TT := tt_at (i := 104) (by decide +kernel) rfl
theorem oi_RX1_3 : Cond.methodLink RX1 3 objectInit ∈ TT ∧ Cond.instanceMethod objectInit ∈ TT ∧ Cond.code objectInit ⟨#[0xb1]⟩ 1 none ∈ TT := ⟨tt_at (i := 107) (by decide +kernel) rfl, tt_at (i := 63) (by decide +kernel) rfl, tt_at (i := 64) (by decide +kernel) rfl⟩
theorem kc_RX1_9 : Cond.classLink RX1 9 RX4 ∈ TT := tt_at (i := 108) (by decide +kernel) rfl
theorem it_RX4 : Cond.instantiable RX4 5 ∈ TT := tt_at (i := 110) (by decide +kernel) rfl
theorem oi_RX4_3 : Cond.methodLink RX4 3 objectInit ∈ TT ∧ Cond.instanceMethod objectInit ∈ TT ∧ Cond.code objectInit ⟨#[0xb1]⟩ 1 none ∈ TT := ⟨tt_at (i := 114) (by decide +kernel) rfl, tt_at (i := 63) (by decide +kernel) rfl, tt_at (i := 64) (by decide +kernel) rfl⟩
theorem kc_RX5_32 : Cond.classLink RX5 32 RX3 ∈ TT := tt_at (i := 183) (by decide +kernel) rfl
theorem it_RX3 : Cond.instantiable RX3 7 ∈ TT := tt_at (i := 184) (by decide +kernel) rfl
theorem oi_RX3_3 : Cond.methodLink RX3 3 objectInit ∈ TT ∧ Cond.instanceMethod objectInit ∈ TT ∧ Cond.code objectInit ⟨#[0xb1]⟩ 1 none ∈ TT := ⟨tt_at (i := 188) (by decide +kernel) rfl, tt_at (i := 63) (by decide +kernel) rfl, tt_at (i := 64) (by decide +kernel) rfl⟩
theorem kc_RX3_9 : Cond.classLink RX3 9 RX0 ∈ TT := tt_at (i := 189) (by decide +kernel) rfl
theorem kc_RX3_18 : Cond.classLink RX3 18 RX1 ∈ TT := tt_at (i := 191) (by decide +kernel) rfl
theorem ml_RX3_20 : Cond.methodLink RX3 20 yX1_init ∈ TT := tt_at (i := 192) (by decide +kernel) rfl
theorem kc_RX5_39 : Cond.classLink RX5 39 RX2 ∈ TT := tt_at (i := 217) (by decide +kernel) rfl
theorem it_RX2 : Cond.instantiable RX2 2 ∈ TT := tt_at (i := 218) (by decide +kernel) rfl
theorem ml_RX5_41 : Cond.methodLink RX5 41 yX2_init ∈ TT := tt_at (i := 219) (by decide +kernel) rfl
theorem oi_RX2_1 : Cond.methodLink RX2 1 objectInit ∈ TT ∧ Cond.instanceMethod objectInit ∈ TT ∧ Cond.code objectInit ⟨#[0xb1]⟩ 1 none ∈ TT := ⟨tt_at (i := 222) (by decide +kernel) rfl, tt_at (i := 63) (by decide +kernel) rfl, tt_at (i := 64) (by decide +kernel) rfl⟩
theorem kc_RX2_7 : Cond.classLink RX2 7 RX1 ∈ TT := tt_at (i := 223) (by decide +kernel) rfl
theorem ml_RX2_15 : Cond.methodLink RX2 15 yX1_init ∈ TT := tt_at (i := 225) (by decide +kernel) rfl
theorem ml_RX5_70 : Cond.methodLink RX5 70 yJ0_toCharArray_70df3 ∈ TT := tt_at (i := 235) (by decide +kernel) rfl
theorem ml_RJ0_492 : Cond.methodLink RJ0 492 yJ0_isLatin1_aae02 ∈ TT := tt_at (i := 239) (by decide +kernel) rfl
theorem ml_RJ0_299 : Cond.methodLink RJ0 299 yJ1_toChars_9d188 ∈ TT := tt_at (i := 245) (by decide +kernel) rfl
theorem ml_RJ1_13 : Cond.methodLink RJ1 13 yJ1_inflate_03870 ∈ TT := tt_at (i := 248) (by decide +kernel) rfl
theorem ml_RJ0_303 : Cond.methodLink RJ0 303 yJ2_toChars_9d188 ∈ TT := tt_at (i := 251) (by decide +kernel) rfl
theorem ml_RJ2_103 : Cond.methodLink RJ2 103 yJ2_getChars_a1a8b ∈ TT := tt_at (i := 254) (by decide +kernel) rfl
theorem ml_RJ2_173 : Cond.methodLink RJ2 173 yJ2_checkBoundsOffCount_d044e ∈ TT := tt_at (i := 257) (by decide +kernel) rfl
theorem ml_RJ2_48 : Cond.methodLink RJ2 48 yJ2_length_9d52b ∈ TT := tt_at (i := 260) (by decide +kernel) rfl
theorem ml_RJ2_419 : Cond.methodLink RJ2 419 yJ0_checkBoundsOffCount_cabcc ∈ TT := tt_at (i := 263) (by decide +kernel) rfl
theorem ml_RJ0_1065 : Cond.methodLink RJ0 1065 yJ3_checkFromIndexSize_8c36e ∈ TT := tt_at (i := 268) (by decide +kernel) rfl
theorem ml_RJ2_71 : Cond.methodLink RJ2 71 yJ2_getChar_3b067 ∈ TT := tt_at (i := 271) (by decide +kernel) rfl
theorem ml_RX5_76 : Cond.methodLink RX5 76 yX3_readText ∈ TT := tt_at (i := 280) (by decide +kernel) rfl
theorem ml_RX3_35 : Cond.methodLink RX3 35 yJ9_min_7cf53 ∈ TT := tt_at (i := 284) (by decide +kernel) rfl
theorem ml_RX3_48 : Cond.methodLink RX3 48 yX0_clear ∈ TT := tt_at (i := 287) (by decide +kernel) rfl
theorem ml_RX3_51 : Cond.methodLink RX3 51 yX1_clear ∈ TT := tt_at (i := 291) (by decide +kernel) rfl
theorem ml_RX3_52 : Cond.methodLink RX3 52 yX3_readItem ∈ TT := tt_at (i := 295) (by decide +kernel) rfl
theorem ml_RX3_56 : Cond.methodLink RX3 56 yX3_nextLetter ∈ TT := tt_at (i := 299) (by decide +kernel) rfl
theorem ml_RX3_60 : Cond.methodLink RX3 60 yX3_readLine ∈ TT := tt_at (i := 303) (by decide +kernel) rfl
theorem ml_RX3_78 : Cond.methodLink RX3 78 yX3_tellGround ∈ TT := tt_at (i := 307) (by decide +kernel) rfl
theorem ml_RX3_63 : Cond.methodLink RX3 63 yX3_readNumbers ∈ TT := tt_at (i := 314) (by decide +kernel) rfl
theorem ml_RX3_99 : Cond.methodLink RX3 99 yX3_readNumber ∈ TT := tt_at (i := 318) (by decide +kernel) rfl
theorem ml_RX3_103 : Cond.methodLink RX3 103 yX3_isFigureNext ∈ TT := tt_at (i := 322) (by decide +kernel) rfl
theorem ml_RX3_66 : Cond.methodLink RX3 66 yX3_giveCells ∈ TT := tt_at (i := 326) (by decide +kernel) rfl
theorem ml_RX3_106 : Cond.methodLink RX3 106 yX0_holds ∈ TT := tt_at (i := 330) (by decide +kernel) rfl
theorem ml_RX3_69 : Cond.methodLink RX3 69 yX3_plantRow ∈ TT := tt_at (i := 334) (by decide +kernel) rfl
theorem ml_RX3_134 : Cond.methodLink RX3 134 yX3_plantTree ∈ TT := tt_at (i := 338) (by decide +kernel) rfl
theorem kl_RX3_141 : Cond.constantLong RX3 141 (-1) ∈ TT := tt_at (i := 342) (by decide +kernel) rfl
theorem ml_RX3_147 : Cond.methodLink RX3 147 yX4_treeAt ∈ TT := tt_at (i := 346) (by decide +kernel) rfl
theorem ml_RX3_151 : Cond.methodLink RX3 151 yX0_isBesideOne ∈ TT := tt_at (i := 350) (by decide +kernel) rfl
theorem ml_RX0_36 : Cond.methodLink RX0 36 yX0_nextBy ∈ TT := tt_at (i := 354) (by decide +kernel) rfl
theorem ml_RX3_155 : Cond.methodLink RX3 155 yX4_plant ∈ TT := tt_at (i := 359) (by decide +kernel) rfl
theorem ml_RX5_81 : Cond.methodLink RX5 81 yX0_copyFrom ∈ TT := tt_at (i := 363) (by decide +kernel) rfl
theorem ml_RX5_87 : Cond.methodLink RX5 87 yX1_copyFrom ∈ TT := tt_at (i := 367) (by decide +kernel) rfl
theorem ml_RX1_46 : Cond.methodLink RX1 46 yX4_copyFrom ∈ TT := tt_at (i := 371) (by decide +kernel) rfl
theorem ac_long : Cond.arrayClass .long ∈ TT := tt_at (i := 418) (by decide +kernel) rfl
theorem ac_byte : Cond.arrayClass .byte ∈ TT := tt_at (i := 419) (by decide +kernel) rfl
theorem ml_RL_13 : Cond.methodLink RL 13 yX5_write ∈ TT := tt_at (i := 420) (by decide +kernel) rfl
theorem ml_RL_18 : Cond.methodLink RL 18 yX5_wipe ∈ TT := tt_at (i := 424) (by decide +kernel) rfl
theorem ml_RL_23 : Cond.methodLink RL 23 yX5_fault ∈ TT := tt_at (i := 428) (by decide +kernel) rfl
theorem ml_RL_27 : Cond.methodLink RL 27 yX5_lay ∈ TT := tt_at (i := 432) (by decide +kernel) rfl
theorem ml_RX5_100 : Cond.methodLink RX5 100 yX2_clear ∈ TT := tt_at (i := 436) (by decide +kernel) rfl
theorem ml_RL_31 : Cond.methodLink RL 31 yX5_cell ∈ TT := tt_at (i := 440) (by decide +kernel) rfl
theorem ml_RX5_103 : Cond.methodLink RX5 103 yX0_holds ∈ TT := tt_at (i := 444) (by decide +kernel) rfl
theorem ml_RX5_107 : Cond.methodLink RX5 107 yX0_groundOf ∈ TT := tt_at (i := 445) (by decide +kernel) rfl
theorem ml_RX5_111 : Cond.methodLink RX5 111 yX0_ownerOf ∈ TT := tt_at (i := 449) (by decide +kernel) rfl
theorem ml_RX5_118 : Cond.methodLink RX5 118 yX5_contains ∈ TT := tt_at (i := 453) (by decide +kernel) rfl
theorem ml_RX5_122 : Cond.methodLink RX5 122 yX1_standsIn ∈ TT := tt_at (i := 454) (by decide +kernel) rfl
theorem ml_RX1_54 : Cond.methodLink RX1 54 yX4_cells ∈ TT := tt_at (i := 459) (by decide +kernel) rfl
theorem ml_RL_36 : Cond.methodLink RL 36 yX5_row ∈ TT := tt_at (i := 464) (by decide +kernel) rfl
theorem ml_RX5_125 : Cond.methodLink RX5 125 yX1_holds ∈ TT := tt_at (i := 468) (by decide +kernel) rfl
theorem ml_RX5_144 : Cond.methodLink RX5 144 yX4_first ∈ TT := tt_at (i := 472) (by decide +kernel) rfl
theorem ml_RX5_148 : Cond.methodLink RX5 148 yX1_wayOf ∈ TT := tt_at (i := 476) (by decide +kernel) rfl
theorem kl_RX1_63 : Cond.constantLong RX1 63 (-1) ∈ TT := tt_at (i := 480) (by decide +kernel) rfl
theorem ml_RX1_92 : Cond.methodLink RX1 92 yX4_first ∈ TT := tt_at (i := 481) (by decide +kernel) rfl
theorem ml_RX1_96 : Cond.methodLink RX1 96 yX0_nextBy ∈ TT := tt_at (i := 482) (by decide +kernel) rfl
theorem ml_RX5_152 : Cond.methodLink RX5 152 yX0_nextBy ∈ TT := tt_at (i := 483) (by decide +kernel) rfl
theorem ml_RL_40 : Cond.methodLink RL 40 yX5_tree ∈ TT := tt_at (i := 484) (by decide +kernel) rfl
theorem ml_RX5_156 : Cond.methodLink RX5 156 yX4_treeAt ∈ TT := tt_at (i := 488) (by decide +kernel) rfl
theorem ml_RL_44 : Cond.methodLink RL 44 yX5_has ∈ TT := tt_at (i := 489) (by decide +kernel) rfl
theorem ml_RX5_159 : Cond.methodLink RX5 159 yX5_isOwner ∈ TT := tt_at (i := 493) (by decide +kernel) rfl
theorem ml_RL_48 : Cond.methodLink RL 48 yX5_pass ∈ TT := tt_at (i := 496) (by decide +kernel) rfl
theorem ml_RX5_165 : Cond.methodLink RX5 165 yX5_isWithin ∈ TT := tt_at (i := 500) (by decide +kernel) rfl
theorem ml_RX5_169 : Cond.methodLink RX5 169 yX2_push ∈ TT := tt_at (i := 503) (by decide +kernel) rfl
theorem ml_RX2_22 : Cond.methodLink RX2 22 yX2_dropOldest ∈ TT := tt_at (i := 507) (by decide +kernel) rfl
theorem ml_RX2_25 : Cond.methodLink RX2 25 yX1_copyFrom ∈ TT := tt_at (i := 511) (by decide +kernel) rfl
theorem ml_RX5_172 : Cond.methodLink RX5 172 yX1_passYears ∈ TT := tt_at (i := 512) (by decide +kernel) rfl
theorem ml_RX1_114 : Cond.methodLink RX1 114 yX1_goYear ∈ TT := tt_at (i := 516) (by decide +kernel) rfl
theorem ml_RX1_111 : Cond.methodLink RX1 111 yX1_goRow ∈ TT := tt_at (i := 520) (by decide +kernel) rfl
theorem ml_RX1_100 : Cond.methodLink RX1 100 yX1_wayOf ∈ TT := tt_at (i := 524) (by decide +kernel) rfl
theorem ml_RX1_76 : Cond.methodLink RX1 76 yX4_treeAt ∈ TT := tt_at (i := 525) (by decide +kernel) rfl
theorem ml_RX1_107 : Cond.methodLink RX1 107 yX1_give ∈ TT := tt_at (i := 527) (by decide +kernel) rfl
theorem ml_RX1_128 : Cond.methodLink RX1 128 yX0_ownerOf ∈ TT := tt_at (i := 531) (by decide +kernel) rfl
theorem ml_RX1_118 : Cond.methodLink RX1 118 yX1_bearRow ∈ TT := tt_at (i := 532) (by decide +kernel) rfl
theorem ml_RX1_124 : Cond.methodLink RX1 124 yX0_isBesideOne ∈ TT := tt_at (i := 536) (by decide +kernel) rfl
theorem ml_RL_52 : Cond.methodLink RL 52 yX5_dig ∈ TT := tt_at (i := 537) (by decide +kernel) rfl
theorem ml_RX5_179 : Cond.methodLink RX5 179 yX1_canDig ∈ TT := tt_at (i := 541) (by decide +kernel) rfl
theorem ml_RX5_182 : Cond.methodLink RX5 182 yX1_digIn ∈ TT := tt_at (i := 545) (by decide +kernel) rfl
theorem ml_RX1_65 : Cond.methodLink RX1 65 yX1_canDig ∈ TT := tt_at (i := 549) (by decide +kernel) rfl
theorem ml_RX5_185 : Cond.methodLink RX5 185 yJ13_bitCount_95d88 ∈ TT := tt_at (i := 550) (by decide +kernel) rfl
theorem kl_RJ13_314 : Cond.constantLong RJ13 314 (6148914691236517205) ∈ TT := tt_at (i := 553) (by decide +kernel) rfl
theorem kl_RJ13_316 : Cond.constantLong RJ13 316 (3689348814741910323) ∈ TT := tt_at (i := 554) (by decide +kernel) rfl
theorem kl_RJ13_318 : Cond.constantLong RJ13 318 (1085102592571150095) ∈ TT := tt_at (i := 555) (by decide +kernel) rfl
theorem ml_RL_56 : Cond.methodLink RL 56 yX5_fill ∈ TT := tt_at (i := 556) (by decide +kernel) rfl
theorem ml_RX5_191 : Cond.methodLink RX5 191 yX1_fillIn ∈ TT := tt_at (i := 560) (by decide +kernel) rfl
theorem ml_RL_60 : Cond.methodLink RL 60 yX5_leave ∈ TT := tt_at (i := 564) (by decide +kernel) rfl
theorem ml_RX5_194 : Cond.methodLink RX5 194 yX1_leaveLast ∈ TT := tt_at (i := 568) (by decide +kernel) rfl
theorem ml_RL_64 : Cond.methodLink RL 64 yX5_undo ∈ TT := tt_at (i := 572) (by decide +kernel) rfl
theorem ml_RX5_200 : Cond.methodLink RX5 200 yX2_pop ∈ TT := tt_at (i := 576) (by decide +kernel) rfl
theorem ml_RL_68 : Cond.methodLink RL 68 yX5_behind ∈ TT := tt_at (i := 580) (by decide +kernel) rfl
theorem ml_RX5_203 : Cond.methodLink RX5 203 yX5_firstTreeBehind ∈ TT := tt_at (i := 584) (by decide +kernel) rfl
theorem ml_RX5_210 : Cond.methodLink RX5 210 yX1_goYear ∈ TT := tt_at (i := 588) (by decide +kernel) rfl
theorem ml_RL_72 : Cond.methodLink RL 72 yX5_wealth ∈ TT := tt_at (i := 589) (by decide +kernel) rfl
theorem ml_RX5_207 : Cond.methodLink RX5 207 yX5_ownedBehind ∈ TT := tt_at (i := 593) (by decide +kernel) rfl
theorem ml_RL_76 : Cond.methodLink RL 76 yX5_comes ∈ TT := tt_at (i := 597) (by decide +kernel) rfl
theorem ml_RL_80 : Cond.methodLink RL 80 yX5_meet ∈ TT := tt_at (i := 601) (by decide +kernel) rfl
theorem ml_RX5_213 : Cond.methodLink RX5 213 yX1_areSideBySide ∈ TT := tt_at (i := 605) (by decide +kernel) rfl
theorem ml_RL_84 : Cond.methodLink RL 84 yX5_again ∈ TT := tt_at (i := 609) (by decide +kernel) rfl
theorem ml_RX5_217 : Cond.methodLink RX5 217 yX1_standsAs ∈ TT := tt_at (i := 613) (by decide +kernel) rfl
theorem ml_RX1_131 : Cond.methodLink RX1 131 yX4_standsAs ∈ TT := tt_at (i := 617) (by decide +kernel) rfl
theorem ml_RL_88 : Cond.methodLink RL 88 yX5_ditches ∈ TT := tt_at (i := 621) (by decide +kernel) rfl
theorem ml_RX5_221 : Cond.methodLink RX5 221 yX5_noneOrOneDitch ∈ TT := tt_at (i := 625) (by decide +kernel) rfl
theorem ml_RX5_228 : Cond.methodLink RX5 228 yX0_cells ∈ TT := tt_at (i := 629) (by decide +kernel) rfl
theorem ml_RX5_231 : Cond.methodLink RX5 231 yX5_bit ∈ TT := tt_at (i := 633) (by decide +kernel) rfl
theorem ml_RX5_225 : Cond.methodLink RX5 225 yX5_twoDitches ∈ TT := tt_at (i := 634) (by decide +kernel) rfl
theorem ml_RL_93 : Cond.methodLink RL 93 yX5_best ∈ TT := tt_at (i := 638) (by decide +kernel) rfl
theorem ml_RL_98 : Cond.methodLink RL 98 yX5_see ∈ TT := tt_at (i := 642) (by decide +kernel) rfl
theorem ml_RL_102 : Cond.methodLink RL 102 yX5_forget ∈ TT := tt_at (i := 646) (by decide +kernel) rfl
theorem ml_RL_106 : Cond.methodLink RL 106 yX5_fits ∈ TT := tt_at (i := 650) (by decide +kernel) rfl
theorem ml_RX5_235 : Cond.methodLink RX5 235 yX5_allSeenComes ∈ TT := tt_at (i := 654) (by decide +kernel) rfl
theorem ml_RL_110 : Cond.methodLink RL 110 yX5_frost ∈ TT := tt_at (i := 658) (by decide +kernel) rfl
theorem ml_RX5_238 : Cond.methodLink RX5 238 yX5_casesOfFrost ∈ TT := tt_at (i := 662) (by decide +kernel) rfl
theorem ml_RX5_271 : Cond.methodLink RX5 271 yX5_firstTreeOfFrost ∈ TT := tt_at (i := 666) (by decide +kernel) rfl
theorem kl_RX5_242 : Cond.constantLong RX5 242 (10) ∈ TT := tt_at (i := 670) (by decide +kernel) rfl
theorem kl_RX5_244 : Cond.constantLong RX5 244 (2) ∈ TT := tt_at (i := 671) (by decide +kernel) rfl
theorem kl_RX5_246 : Cond.constantLong RX5 246 (5) ∈ TT := tt_at (i := 672) (by decide +kernel) rfl
theorem ml_RL_115 : Cond.methodLink RL 115 yX5_century ∈ TT := tt_at (i := 673) (by decide +kernel) rfl
theorem ml_RX5_248 : Cond.methodLink RX5 248 yX5_drawOf ∈ TT := tt_at (i := 677) (by decide +kernel) rfl
theorem kl_RX5_274 : Cond.constantLong RX5 274 (7919) ∈ TT := tt_at (i := 680) (by decide +kernel) rfl
theorem kl_RX5_276 : Cond.constantLong RX5 276 (6151) ∈ TT := tt_at (i := 681) (by decide +kernel) rfl
theorem kl_RX5_278 : Cond.constantLong RX5 278 (65521) ∈ TT := tt_at (i := 682) (by decide +kernel) rfl
theorem ml_RX5_251 : Cond.methodLink RX5 251 yX5_disturbAhead ∈ TT := tt_at (i := 683) (by decide +kernel) rfl
theorem ml_RX5_280 : Cond.methodLink RX5 280 yJ9_min_7cf53 ∈ TT := tt_at (i := 687) (by decide +kernel) rfl
theorem ml_RX5_254 : Cond.methodLink RX5 254 yX1_ownedByAll ∈ TT := tt_at (i := 688) (by decide +kernel) rfl
theorem ml_RL_119 : Cond.methodLink RL 119 yX5_keep ∈ TT := tt_at (i := 692) (by decide +kernel) rfl
theorem ml_RL_123 : Cond.methodLink RL 123 yX5_back ∈ TT := tt_at (i := 696) (by decide +kernel) rfl
theorem ml_RL_127 : Cond.methodLink RL 127 yX5_count ∈ TT := tt_at (i := 700) (by decide +kernel) rfl
theorem kl_RX5_266 : Cond.constantLong RX5 266 (-1) ∈ TT := tt_at (i := 704) (by decide +kernel) rfl
theorem kc_RL_10 : Cond.classLink RL 10 RX6 ∈ TT := tt_at (i := 705) (by decide +kernel) rfl
theorem it_RX6 : Cond.instantiable RX6 14 ∈ TT := tt_at (i := 706) (by decide +kernel) rfl
theorem ml_RL_12 : Cond.methodLink RL 12 yX6_init ∈ TT := tt_at (i := 707) (by decide +kernel) rfl
theorem oi_RX6_1 : Cond.methodLink RX6 1 objectInit ∈ TT ∧ Cond.instanceMethod objectInit ∈ TT ∧ Cond.code objectInit ⟨#[0xb1]⟩ 1 none ∈ TT := ⟨tt_at (i := 710) (by decide +kernel) rfl, tt_at (i := 63) (by decide +kernel) rfl, tt_at (i := 64) (by decide +kernel) rfl⟩
theorem ml_RX6_37 : Cond.methodLink RX6 37 yX6_begins ∈ TT := tt_at (i := 711) (by decide +kernel) rfl
theorem ml_RX6_40 : Cond.methodLink RX6 40 yX6_owns ∈ TT := tt_at (i := 715) (by decide +kernel) rfl
theorem ml_RX6_44 : Cond.methodLink RX6 44 yX6_rowOf ∈ TT := tt_at (i := 719) (by decide +kernel) rfl
theorem ml_RX6_47 : Cond.methodLink RX6 47 yX6_stands ∈ TT := tt_at (i := 723) (by decide +kernel) rfl
theorem ml_RX6_51 : Cond.methodLink RX6 51 yX6_lays ∈ TT := tt_at (i := 727) (by decide +kernel) rfl
theorem ml_RL_17 : Cond.methodLink RL 17 yX6_write ∈ TT := tt_at (i := 774) (by decide +kernel) rfl
theorem ml_RX6_54 : Cond.methodLink RX6 54 yX6_in ∈ TT := tt_at (i := 778) (by decide +kernel) rfl
theorem ml_RL_22 : Cond.methodLink RL 22 yX6_wipe ∈ TT := tt_at (i := 781) (by decide +kernel) rfl
theorem ml_RL_26 : Cond.methodLink RL 26 yX6_fault ∈ TT := tt_at (i := 785) (by decide +kernel) rfl
theorem ml_RX6_97 : Cond.methodLink RX6 97 yX6_readsAll ∈ TT := tt_at (i := 789) (by decide +kernel) rfl
theorem ml_RX6_87 : Cond.methodLink RX6 87 yX6_readsLine ∈ TT := tt_at (i := 793) (by decide +kernel) rfl
theorem ml_RX6_65 : Cond.methodLink RX6 65 yX6_letterAt ∈ TT := tt_at (i := 797) (by decide +kernel) rfl
theorem ml_RX6_91 : Cond.methodLink RX6 91 yX6_readsOwner ∈ TT := tt_at (i := 801) (by decide +kernel) rfl
theorem ml_RX6_77 : Cond.methodLink RX6 77 yX6_number ∈ TT := tt_at (i := 805) (by decide +kernel) rfl
theorem ml_RX6_73 : Cond.methodLink RX6 73 yX6_figures ∈ TT := tt_at (i := 809) (by decide +kernel) rfl
theorem ml_RX6_69 : Cond.methodLink RX6 69 yX6_isFigure ∈ TT := tt_at (i := 813) (by decide +kernel) rfl
theorem ml_RX6_94 : Cond.methodLink RX6 94 yX6_readsRow ∈ TT := tt_at (i := 816) (by decide +kernel) rfl
theorem ml_RX6_81 : Cond.methodLink RX6 81 yX6_isTree ∈ TT := tt_at (i := 820) (by decide +kernel) rfl
theorem ml_RX6_84 : Cond.methodLink RX6 84 yX6_isNext ∈ TT := tt_at (i := 824) (by decide +kernel) rfl
theorem ml_RL_30 : Cond.methodLink RL 30 yX6_lay ∈ TT := tt_at (i := 827) (by decide +kernel) rfl
theorem ml_RL_35 : Cond.methodLink RL 35 yX6_cell ∈ TT := tt_at (i := 831) (by decide +kernel) rfl
theorem ml_RX6_110 : Cond.methodLink RX6 110 yX6_isCell ∈ TT := tt_at (i := 835) (by decide +kernel) rfl
theorem ml_RX6_113 : Cond.methodLink RX6 113 yX6_lies ∈ TT := tt_at (i := 839) (by decide +kernel) rfl
theorem ml_RX6_116 : Cond.methodLink RX6 116 yX6_treeIn ∈ TT := tt_at (i := 843) (by decide +kernel) rfl
theorem ml_RL_39 : Cond.methodLink RL 39 yX6_row ∈ TT := tt_at (i := 847) (by decide +kernel) rfl
theorem ml_RX6_126 : Cond.methodLink RX6 126 yX6_isRow ∈ TT := tt_at (i := 851) (by decide +kernel) rfl
theorem ml_RX6_129 : Cond.methodLink RX6 129 yX6_headsFor ∈ TT := tt_at (i := 855) (by decide +kernel) rfl
theorem ml_RX6_119 : Cond.methodLink RX6 119 yX6_beside ∈ TT := tt_at (i := 859) (by decide +kernel) rfl
theorem ml_RX6_122 : Cond.methodLink RX6 122 yX6_isOpen ∈ TT := tt_at (i := 863) (by decide +kernel) rfl
theorem ml_RL_43 : Cond.methodLink RL 43 yX6_tree ∈ TT := tt_at (i := 867) (by decide +kernel) rfl
theorem ml_RL_47 : Cond.methodLink RL 47 yX6_has ∈ TT := tt_at (i := 871) (by decide +kernel) rfl
theorem ml_RL_51 : Cond.methodLink RL 51 yX6_pass ∈ TT := tt_at (i := 875) (by decide +kernel) rfl
theorem ml_RX6_135 : Cond.methodLink RX6 135 yX6_keeps ∈ TT := tt_at (i := 879) (by decide +kernel) rfl
theorem ml_RX6_138 : Cond.methodLink RX6 138 yX6_passes ∈ TT := tt_at (i := 883) (by decide +kernel) rfl
theorem ml_RX6_132 : Cond.methodLink RX6 132 yX6_hasMate ∈ TT := tt_at (i := 887) (by decide +kernel) rfl
theorem ml_RL_55 : Cond.methodLink RL 55 yX6_dig ∈ TT := tt_at (i := 891) (by decide +kernel) rfl
theorem ml_RX6_141 : Cond.methodLink RX6 141 yX6_mayDig ∈ TT := tt_at (i := 895) (by decide +kernel) rfl
theorem ml_RX6_144 : Cond.methodLink RX6 144 yX6_countOf ∈ TT := tt_at (i := 899) (by decide +kernel) rfl
theorem ml_RL_59 : Cond.methodLink RL 59 yX6_fill ∈ TT := tt_at (i := 903) (by decide +kernel) rfl
theorem ml_RL_63 : Cond.methodLink RL 63 yX6_leave ∈ TT := tt_at (i := 907) (by decide +kernel) rfl
theorem ml_RX6_147 : Cond.methodLink RX6 147 yX6_leaves ∈ TT := tt_at (i := 911) (by decide +kernel) rfl
theorem ml_RL_67 : Cond.methodLink RL 67 yX6_undo ∈ TT := tt_at (i := 915) (by decide +kernel) rfl
theorem ml_RL_71 : Cond.methodLink RL 71 yX6_behind ∈ TT := tt_at (i := 919) (by decide +kernel) rfl
theorem ml_RX6_156 : Cond.methodLink RX6 156 yX6_behindOf ∈ TT := tt_at (i := 923) (by decide +kernel) rfl
theorem ml_RX6_150 : Cond.methodLink RX6 150 yX6_holds ∈ TT := tt_at (i := 927) (by decide +kernel) rfl
theorem ml_RX6_153 : Cond.methodLink RX6 153 yX6_lets ∈ TT := tt_at (i := 931) (by decide +kernel) rfl
theorem ml_RL_75 : Cond.methodLink RL 75 yX6_wealth ∈ TT := tt_at (i := 935) (by decide +kernel) rfl
theorem ml_RL_79 : Cond.methodLink RL 79 yX6_comes ∈ TT := tt_at (i := 939) (by decide +kernel) rfl
theorem ml_RL_83 : Cond.methodLink RL 83 yX6_meet ∈ TT := tt_at (i := 943) (by decide +kernel) rfl
theorem ml_RX6_159 : Cond.methodLink RX6 159 yX6_areBeside ∈ TT := tt_at (i := 947) (by decide +kernel) rfl
theorem ml_RL_87 : Cond.methodLink RL 87 yX6_again ∈ TT := tt_at (i := 951) (by decide +kernel) rfl
theorem ml_RX6_162 : Cond.methodLink RX6 162 yX6_isAgain ∈ TT := tt_at (i := 955) (by decide +kernel) rfl
theorem ml_RL_92 : Cond.methodLink RL 92 yX6_ditches ∈ TT := tt_at (i := 959) (by decide +kernel) rfl
theorem ml_RX6_165 : Cond.methodLink RX6 165 yX6_brings ∈ TT := tt_at (i := 963) (by decide +kernel) rfl
theorem ml_RL_97 : Cond.methodLink RL 97 yX6_best ∈ TT := tt_at (i := 967) (by decide +kernel) rfl
theorem ml_RL_101 : Cond.methodLink RL 101 yX6_see ∈ TT := tt_at (i := 971) (by decide +kernel) rfl
theorem ml_RL_105 : Cond.methodLink RL 105 yX6_forget ∈ TT := tt_at (i := 975) (by decide +kernel) rfl
theorem ml_RL_109 : Cond.methodLink RL 109 yX6_fits ∈ TT := tt_at (i := 979) (by decide +kernel) rfl
theorem ml_RX6_169 : Cond.methodLink RX6 169 yX6_isSo ∈ TT := tt_at (i := 983) (by decide +kernel) rfl
theorem ml_RL_114 : Cond.methodLink RL 114 yX6_frost ∈ TT := tt_at (i := 987) (by decide +kernel) rfl
theorem ml_RL_118 : Cond.methodLink RL 118 yX6_century ∈ TT := tt_at (i := 991) (by decide +kernel) rfl
theorem kl_RX6_172 : Cond.constantLong RX6 172 (7919) ∈ TT := tt_at (i := 995) (by decide +kernel) rfl
theorem kl_RX6_174 : Cond.constantLong RX6 174 (6151) ∈ TT := tt_at (i := 996) (by decide +kernel) rfl
theorem kl_RX6_176 : Cond.constantLong RX6 176 (65521) ∈ TT := tt_at (i := 997) (by decide +kernel) rfl
theorem ml_RX6_178 : Cond.methodLink RX6 178 yX6_turn ∈ TT := tt_at (i := 998) (by decide +kernel) rfl
theorem ml_RX6_181 : Cond.methodLink RX6 181 yX6_allHave ∈ TT := tt_at (i := 1002) (by decide +kernel) rfl
theorem ml_RL_122 : Cond.methodLink RL 122 yX6_keep ∈ TT := tt_at (i := 1006) (by decide +kernel) rfl
theorem ml_RL_126 : Cond.methodLink RL 126 yX6_back ∈ TT := tt_at (i := 1010) (by decide +kernel) rfl
theorem ml_RL_130 : Cond.methodLink RL 130 yX6_count ∈ TT := tt_at (i := 1014) (by decide +kernel) rfl
theorem nl_RX5_15 : (RX5, 15, yX0_init, "WalkingOrchard") ∈ nestW := List.mem_of_getElem? (i := 0) rfl
theorem nl_RX1_25 : (RX1, 25, yX4_init, "WalkingOrchard") ∈ nestW := List.mem_of_getElem? (i := 1) rfl
theorem nl_RX5_34 : (RX5, 34, yX3_init, "WalkingOrchard") ∈ nestW := List.mem_of_getElem? (i := 2) rfl
theorem nl_RX3_11 : (RX3, 11, yX0_init, "WalkingOrchard") ∈ nestW := List.mem_of_getElem? (i := 3) rfl
theorem nl_RX3_86 : (RX3, 86, yX5_bit, "WalkingOrchard") ∈ nestW := List.mem_of_getElem? (i := 4) rfl
theorem nl_RX3_143 : (RX3, 143, yX5_contains, "WalkingOrchard") ∈ nestW := List.mem_of_getElem? (i := 5) rfl
theorem nl_RX0_32 : (RX0, 32, yX5_contains, "WalkingOrchard") ∈ nestW := List.mem_of_getElem? (i := 6) rfl
theorem nl_RX1_50 : (RX1, 50, yX5_contains, "WalkingOrchard") ∈ nestW := List.mem_of_getElem? (i := 7) rfl
theorem nl_RX4_28 : (RX4, 28, yX5_bit, "WalkingOrchard") ∈ nestW := List.mem_of_getElem? (i := 8) rfl
theorem nl_RX1_69 : (RX1, 69, yX5_bit, "WalkingOrchard") ∈ nestW := List.mem_of_getElem? (i := 9) rfl
theorem uw_X0 : ∀ w ∈ u_ws RX0 TX0 6, w ∈ TT := fun w hw => by
  obtain ⟨k, hk, rfl⟩ := List.mem_map.mp hw
  have hk := List.mem_range.mp hk
  match k, hk with
  | 0, _ => exact tt_at (i := 87) (by decide +kernel) rfl
  | 1, _ => exact tt_at (i := 89) (by decide +kernel) rfl
  | 2, _ => exact tt_at (i := 91) (by decide +kernel) rfl
  | 3, _ => exact tt_at (i := 93) (by decide +kernel) rfl
  | 4, _ => exact tt_at (i := 95) (by decide +kernel) rfl
  | 5, _ => exact tt_at (i := 97) (by decide +kernel) rfl
  | k + 6, h => exact absurd h (by omega)
theorem uw_X1 : ∀ w ∈ u_ws RX1 TX1 9, w ∈ TT := fun w hw => by
  obtain ⟨k, hk, rfl⟩ := List.mem_map.mp hw
  have hk := List.mem_range.mp hk
  match k, hk with
  | 0, _ => exact tt_at (i := 164) (by decide +kernel) rfl
  | 1, _ => exact tt_at (i := 166) (by decide +kernel) rfl
  | 2, _ => exact tt_at (i := 168) (by decide +kernel) rfl
  | 3, _ => exact tt_at (i := 170) (by decide +kernel) rfl
  | 4, _ => exact tt_at (i := 172) (by decide +kernel) rfl
  | 5, _ => exact tt_at (i := 174) (by decide +kernel) rfl
  | 6, _ => exact tt_at (i := 176) (by decide +kernel) rfl
  | 7, _ => exact tt_at (i := 178) (by decide +kernel) rfl
  | 8, _ => exact tt_at (i := 180) (by decide +kernel) rfl
  | k + 9, h => exact absurd h (by omega)
theorem uw_X2 : ∀ w ∈ u_ws RX2 TX2 2, w ∈ TT := fun w hw => by
  obtain ⟨k, hk, rfl⟩ := List.mem_map.mp hw
  have hk := List.mem_range.mp hk
  match k, hk with
  | 0, _ => exact tt_at (i := 229) (by decide +kernel) rfl
  | 1, _ => exact tt_at (i := 231) (by decide +kernel) rfl
  | k + 2, h => exact absurd h (by omega)
theorem uw_X3 : ∀ w ∈ u_ws RX3 TX3 7, w ∈ TT := fun w hw => by
  obtain ⟨k, hk, rfl⟩ := List.mem_map.mp hw
  have hk := List.mem_range.mp hk
  match k, hk with
  | 0, _ => exact tt_at (i := 202) (by decide +kernel) rfl
  | 1, _ => exact tt_at (i := 204) (by decide +kernel) rfl
  | 2, _ => exact tt_at (i := 206) (by decide +kernel) rfl
  | 3, _ => exact tt_at (i := 208) (by decide +kernel) rfl
  | 4, _ => exact tt_at (i := 210) (by decide +kernel) rfl
  | 5, _ => exact tt_at (i := 212) (by decide +kernel) rfl
  | 6, _ => exact tt_at (i := 214) (by decide +kernel) rfl
  | k + 7, h => exact absurd h (by omega)
theorem uw_X4 : ∀ w ∈ u_ws RX4 TX4 5, w ∈ TT := fun w hw => by
  obtain ⟨k, hk, rfl⟩ := List.mem_map.mp hw
  have hk := List.mem_range.mp hk
  match k, hk with
  | 0, _ => exact tt_at (i := 133) (by decide +kernel) rfl
  | 1, _ => exact tt_at (i := 135) (by decide +kernel) rfl
  | 2, _ => exact tt_at (i := 137) (by decide +kernel) rfl
  | 3, _ => exact tt_at (i := 139) (by decide +kernel) rfl
  | 4, _ => exact tt_at (i := 141) (by decide +kernel) rfl
  | k + 5, h => exact absurd h (by omega)
theorem uw_X5 : ∀ w ∈ u_ws RX5 TX5 14, w ∈ TT := fun w hw => by
  obtain ⟨k, hk, rfl⟩ := List.mem_map.mp hw
  have hk := List.mem_range.mp hk
  match k, hk with
  | 0, _ => exact tt_at (i := 389) (by decide +kernel) rfl
  | 1, _ => exact tt_at (i := 391) (by decide +kernel) rfl
  | 2, _ => exact tt_at (i := 393) (by decide +kernel) rfl
  | 3, _ => exact tt_at (i := 395) (by decide +kernel) rfl
  | 4, _ => exact tt_at (i := 397) (by decide +kernel) rfl
  | 5, _ => exact tt_at (i := 399) (by decide +kernel) rfl
  | 6, _ => exact tt_at (i := 401) (by decide +kernel) rfl
  | 7, _ => exact tt_at (i := 403) (by decide +kernel) rfl
  | 8, _ => exact tt_at (i := 405) (by decide +kernel) rfl
  | 9, _ => exact tt_at (i := 407) (by decide +kernel) rfl
  | 10, _ => exact tt_at (i := 409) (by decide +kernel) rfl
  | 11, _ => exact tt_at (i := 411) (by decide +kernel) rfl
  | 12, _ => exact tt_at (i := 413) (by decide +kernel) rfl
  | 13, _ => exact tt_at (i := 415) (by decide +kernel) rfl
  | k + 14, h => exact absurd h (by omega)
theorem uw_X6 : ∀ w ∈ u_ws RX6 TX6 14, w ∈ TT := fun w hw => by
  obtain ⟨k, hk, rfl⟩ := List.mem_map.mp hw
  have hk := List.mem_range.mp hk
  match k, hk with
  | 0, _ => exact tt_at (i := 745) (by decide +kernel) rfl
  | 1, _ => exact tt_at (i := 747) (by decide +kernel) rfl
  | 2, _ => exact tt_at (i := 749) (by decide +kernel) rfl
  | 3, _ => exact tt_at (i := 751) (by decide +kernel) rfl
  | 4, _ => exact tt_at (i := 753) (by decide +kernel) rfl
  | 5, _ => exact tt_at (i := 755) (by decide +kernel) rfl
  | 6, _ => exact tt_at (i := 757) (by decide +kernel) rfl
  | 7, _ => exact tt_at (i := 759) (by decide +kernel) rfl
  | 8, _ => exact tt_at (i := 761) (by decide +kernel) rfl
  | 9, _ => exact tt_at (i := 763) (by decide +kernel) rfl
  | 10, _ => exact tt_at (i := 765) (by decide +kernel) rfl
  | 11, _ => exact tt_at (i := 767) (by decide +kernel) rfl
  | 12, _ => exact tt_at (i := 769) (by decide +kernel) rfl
  | 13, _ => exact tt_at (i := 771) (by decide +kernel) rfl
  | k + 14, h => exact absurd h (by omega)
theorem fl_RX0_9 : FL RX0 9 0 0 true (.array .int) := ⟨RX0, TX0, 6, tyX0, rfl, by decide, fun w h => TT_tbl w (uw_X0 w h), uw_X0, tt_at (i := 71) (by decide +kernel) rfl, rfl, tyX0_ok, nmX0, rfl, by decide +kernel⟩
theorem fl_RX3_110 : FL RX3 110 0 0 true (.array .int) := ⟨RX0, TX0, 6, tyX0, rfl, by decide, fun w h => TT_tbl w (uw_X0 w h), uw_X0, tt_at (i := 72) (by decide +kernel) rfl, rfl, tyX0_ok, nmX0, rfl, by decide +kernel⟩
theorem fl_RX0_15 : FL RX0 15 0 1 false .long := ⟨RX0, TX0, 6, tyX0, rfl, by decide, fun w h => TT_tbl w (uw_X0 w h), uw_X0, tt_at (i := 73) (by decide +kernel) rfl, rfl, tyX0_ok, nmX0, rfl, by decide +kernel⟩
theorem fl_RX1_58 : FL RX1 58 0 1 false .long := ⟨RX0, TX0, 6, tyX0, rfl, by decide, fun w h => TT_tbl w (uw_X0 w h), uw_X0, tt_at (i := 74) (by decide +kernel) rfl, rfl, tyX0_ok, nmX0, rfl, by decide +kernel⟩
theorem fl_RX3_82 : FL RX3 82 0 1 false .long := ⟨RX0, TX0, 6, tyX0, rfl, by decide, fun w h => TT_tbl w (uw_X0 w h), uw_X0, tt_at (i := 75) (by decide +kernel) rfl, rfl, tyX0_ok, nmX0, rfl, by decide +kernel⟩
theorem fl_RX0_19 : FL RX0 19 0 2 false .long := ⟨RX0, TX0, 6, tyX0, rfl, by decide, fun w h => TT_tbl w (uw_X0 w h), uw_X0, tt_at (i := 76) (by decide +kernel) rfl, rfl, tyX0_ok, nmX0, rfl, by decide +kernel⟩
theorem fl_RX3_90 : FL RX3 90 0 2 false .long := ⟨RX0, TX0, 6, tyX0, rfl, by decide, fun w h => TT_tbl w (uw_X0 w h), uw_X0, tt_at (i := 77) (by decide +kernel) rfl, rfl, tyX0_ok, nmX0, rfl, by decide +kernel⟩
theorem fl_RX1_83 : FL RX1 83 0 2 false .long := ⟨RX0, TX0, 6, tyX0, rfl, by decide, fun w h => TT_tbl w (uw_X0 w h), uw_X0, tt_at (i := 78) (by decide +kernel) rfl, rfl, tyX0_ok, nmX0, rfl, by decide +kernel⟩
theorem fl_RX0_22 : FL RX0 22 0 3 false .long := ⟨RX0, TX0, 6, tyX0, rfl, by decide, fun w h => TT_tbl w (uw_X0 w h), uw_X0, tt_at (i := 79) (by decide +kernel) rfl, rfl, tyX0_ok, nmX0, rfl, by decide +kernel⟩
theorem fl_RX3_93 : FL RX3 93 0 3 false .long := ⟨RX0, TX0, 6, tyX0, rfl, by decide, fun w h => TT_tbl w (uw_X0 w h), uw_X0, tt_at (i := 80) (by decide +kernel) rfl, rfl, tyX0_ok, nmX0, rfl, by decide +kernel⟩
theorem fl_RX1_86 : FL RX1 86 0 3 false .long := ⟨RX0, TX0, 6, tyX0, rfl, by decide, fun w h => TT_tbl w (uw_X0 w h), uw_X0, tt_at (i := 81) (by decide +kernel) rfl, rfl, tyX0_ok, nmX0, rfl, by decide +kernel⟩
theorem fl_RX0_25 : FL RX0 25 0 4 false .int := ⟨RX0, TX0, 6, tyX0, rfl, by decide, fun w h => TT_tbl w (uw_X0 w h), uw_X0, tt_at (i := 82) (by decide +kernel) rfl, rfl, tyX0_ok, nmX0, rfl, by decide +kernel⟩
theorem fl_RX3_72 : FL RX3 72 0 4 false .int := ⟨RX0, TX0, 6, tyX0, rfl, by decide, fun w h => TT_tbl w (uw_X0 w h), uw_X0, tt_at (i := 83) (by decide +kernel) rfl, rfl, tyX0_ok, nmX0, rfl, by decide +kernel⟩
theorem fl_RX0_29 : FL RX0 29 0 5 false .int := ⟨RX0, TX0, 6, tyX0, rfl, by decide, fun w h => TT_tbl w (uw_X0 w h), uw_X0, tt_at (i := 84) (by decide +kernel) rfl, rfl, tyX0_ok, nmX0, rfl, by decide +kernel⟩
theorem fl_RX3_75 : FL RX3 75 0 5 false .int := ⟨RX0, TX0, 6, tyX0, rfl, by decide, fun w h => TT_tbl w (uw_X0 w h), uw_X0, tt_at (i := 85) (by decide +kernel) rfl, rfl, tyX0_ok, nmX0, rfl, by decide +kernel⟩
theorem fl_RX5_257 : FL RX5 257 0 5 false .int := ⟨RX0, TX0, 6, tyX0, rfl, by decide, fun w h => TT_tbl w (uw_X0 w h), uw_X0, tt_at (i := 86) (by decide +kernel) rfl, rfl, tyX0_ok, nmX0, rfl, by decide +kernel⟩
theorem fl_RX4_9 : FL RX4 9 4 0 true (.array .int) := ⟨RX4, TX4, 5, tyX4, rfl, by decide, fun w h => TT_tbl w (uw_X4 w h), uw_X4, tt_at (i := 115) (by decide +kernel) rfl, rfl, tyX4_ok, nmX4, rfl, by decide +kernel⟩
theorem fl_RX1_104 : FL RX1 104 4 0 true (.array .int) := ⟨RX4, TX4, 5, tyX4, rfl, by decide, fun w h => TT_tbl w (uw_X4 w h), uw_X4, tt_at (i := 116) (by decide +kernel) rfl, rfl, tyX4_ok, nmX4, rfl, by decide +kernel⟩
theorem fl_RX4_15 : FL RX4 15 4 1 false .int := ⟨RX4, TX4, 5, tyX4, rfl, by decide, fun w h => TT_tbl w (uw_X4 w h), uw_X4, tt_at (i := 117) (by decide +kernel) rfl, rfl, tyX4_ok, nmX4, rfl, by decide +kernel⟩
theorem fl_RX5_141 : FL RX5 141 4 1 false .int := ⟨RX4, TX4, 5, tyX4, rfl, by decide, fun w h => TT_tbl w (uw_X4 w h), uw_X4, tt_at (i := 118) (by decide +kernel) rfl, rfl, tyX4_ok, nmX4, rfl, by decide +kernel⟩
theorem fl_RX1_73 : FL RX1 73 4 1 false .int := ⟨RX4, TX4, 5, tyX4, rfl, by decide, fun w h => TT_tbl w (uw_X4 w h), uw_X4, tt_at (i := 119) (by decide +kernel) rfl, rfl, tyX4_ok, nmX4, rfl, by decide +kernel⟩
theorem fl_RX3_120 : FL RX3 120 4 1 false .int := ⟨RX4, TX4, 5, tyX4, rfl, by decide, fun w h => TT_tbl w (uw_X4 w h), uw_X4, tt_at (i := 120) (by decide +kernel) rfl, rfl, tyX4_ok, nmX4, rfl, by decide +kernel⟩
theorem fl_RX4_19 : FL RX4 19 4 2 false .int := ⟨RX4, TX4, 5, tyX4, rfl, by decide, fun w h => TT_tbl w (uw_X4 w h), uw_X4, tt_at (i := 121) (by decide +kernel) rfl, rfl, tyX4_ok, nmX4, rfl, by decide +kernel⟩
theorem fl_RX5_130 : FL RX5 130 4 2 false .int := ⟨RX4, TX4, 5, tyX4, rfl, by decide, fun w h => TT_tbl w (uw_X4 w h), uw_X4, tt_at (i := 122) (by decide +kernel) rfl, rfl, tyX4_ok, nmX4, rfl, by decide +kernel⟩
theorem fl_RX1_80 : FL RX1 80 4 2 false .int := ⟨RX4, TX4, 5, tyX4, rfl, by decide, fun w h => TT_tbl w (uw_X4 w h), uw_X4, tt_at (i := 123) (by decide +kernel) rfl, rfl, tyX4_ok, nmX4, rfl, by decide +kernel⟩
theorem fl_RX3_125 : FL RX3 125 4 2 false .int := ⟨RX4, TX4, 5, tyX4, rfl, by decide, fun w h => TT_tbl w (uw_X4 w h), uw_X4, tt_at (i := 124) (by decide +kernel) rfl, rfl, tyX4_ok, nmX4, rfl, by decide +kernel⟩
theorem fl_RX4_22 : FL RX4 22 4 3 false .int := ⟨RX4, TX4, 5, tyX4, rfl, by decide, fun w h => TT_tbl w (uw_X4 w h), uw_X4, tt_at (i := 125) (by decide +kernel) rfl, rfl, tyX4_ok, nmX4, rfl, by decide +kernel⟩
theorem fl_RX5_135 : FL RX5 135 4 3 false .int := ⟨RX4, TX4, 5, tyX4, rfl, by decide, fun w h => TT_tbl w (uw_X4 w h), uw_X4, tt_at (i := 126) (by decide +kernel) rfl, rfl, tyX4_ok, nmX4, rfl, by decide +kernel⟩
theorem fl_RX1_89 : FL RX1 89 4 3 false .int := ⟨RX4, TX4, 5, tyX4, rfl, by decide, fun w h => TT_tbl w (uw_X4 w h), uw_X4, tt_at (i := 127) (by decide +kernel) rfl, rfl, tyX4_ok, nmX4, rfl, by decide +kernel⟩
theorem fl_RX3_128 : FL RX3 128 4 3 false .int := ⟨RX4, TX4, 5, tyX4, rfl, by decide, fun w h => TT_tbl w (uw_X4 w h), uw_X4, tt_at (i := 128) (by decide +kernel) rfl, rfl, tyX4_ok, nmX4, rfl, by decide +kernel⟩
theorem fl_RX4_25 : FL RX4 25 4 4 false .int := ⟨RX4, TX4, 5, tyX4, rfl, by decide, fun w h => TT_tbl w (uw_X4 w h), uw_X4, tt_at (i := 129) (by decide +kernel) rfl, rfl, tyX4_ok, nmX4, rfl, by decide +kernel⟩
theorem fl_RX5_138 : FL RX5 138 4 4 false .int := ⟨RX4, TX4, 5, tyX4, rfl, by decide, fun w h => TT_tbl w (uw_X4 w h), uw_X4, tt_at (i := 130) (by decide +kernel) rfl, rfl, tyX4_ok, nmX4, rfl, by decide +kernel⟩
theorem fl_RX3_131 : FL RX3 131 4 4 false .int := ⟨RX4, TX4, 5, tyX4, rfl, by decide, fun w h => TT_tbl w (uw_X4 w h), uw_X4, tt_at (i := 131) (by decide +kernel) rfl, rfl, tyX4_ok, nmX4, rfl, by decide +kernel⟩
theorem fl_RX1_121 : FL RX1 121 4 4 false .int := ⟨RX4, TX4, 5, tyX4, rfl, by decide, fun w h => TT_tbl w (uw_X4 w h), uw_X4, tt_at (i := 132) (by decide +kernel) rfl, rfl, tyX4_ok, nmX4, rfl, by decide +kernel⟩
theorem fl_RX1_21 : FL RX1 21 1 0 true (.object "WalkingOrchard$Land") := ⟨RX1, TX1, 9, tyX1, rfl, by decide, fun w h => TT_tbl w (uw_X1 w h), uw_X1, tt_at (i := 144) (by decide +kernel) rfl, rfl, tyX1_ok, nmX1, rfl, by decide +kernel⟩
theorem fl_RX1_11 : FL RX1 11 1 1 true (.array (.object "WalkingOrchard$Row")) := ⟨RX1, TX1, 9, tyX1, rfl, by decide, fun w h => TT_tbl w (uw_X1 w h), uw_X1, tt_at (i := 145) (by decide +kernel) rfl, rfl, tyX1_ok, nmX1, rfl, by decide +kernel⟩
theorem fl_RX5_126 : FL RX5 126 1 1 true (.array (.object "WalkingOrchard$Row")) := ⟨RX1, TX1, 9, tyX1, rfl, by decide, fun w h => TT_tbl w (uw_X1 w h), uw_X1, tt_at (i := 146) (by decide +kernel) rfl, rfl, tyX1_ok, nmX1, rfl, by decide +kernel⟩
theorem fl_RX3_116 : FL RX3 116 1 1 true (.array (.object "WalkingOrchard$Row")) := ⟨RX1, TX1, 9, tyX1, rfl, by decide, fun w h => TT_tbl w (uw_X1 w h), uw_X1, tt_at (i := 147) (by decide +kernel) rfl, rfl, tyX1_ok, nmX1, rfl, by decide +kernel⟩
theorem fl_RX1_17 : FL RX1 17 1 2 true (.array .int) := ⟨RX1, TX1, 9, tyX1, rfl, by decide, fun w h => TT_tbl w (uw_X1 w h), uw_X1, tt_at (i := 148) (by decide +kernel) rfl, rfl, tyX1_ok, nmX1, rfl, by decide +kernel⟩
theorem fl_RX5_162 : FL RX5 162 1 2 true (.array .int) := ⟨RX1, TX1, 9, tyX1, rfl, by decide, fun w h => TT_tbl w (uw_X1 w h), uw_X1, tt_at (i := 149) (by decide +kernel) rfl, rfl, tyX1_ok, nmX1, rfl, by decide +kernel⟩
theorem fl_RX1_26 : FL RX1 26 1 3 false .int := ⟨RX1, TX1, 9, tyX1, rfl, by decide, fun w h => TT_tbl w (uw_X1 w h), uw_X1, tt_at (i := 150) (by decide +kernel) rfl, rfl, tyX1_ok, nmX1, rfl, by decide +kernel⟩
theorem fl_RX5_94 : FL RX5 94 1 3 false .int := ⟨RX1, TX1, 9, tyX1, rfl, by decide, fun w h => TT_tbl w (uw_X1 w h), uw_X1, tt_at (i := 151) (by decide +kernel) rfl, rfl, tyX1_ok, nmX1, rfl, by decide +kernel⟩
theorem fl_RX3_113 : FL RX3 113 1 3 false .int := ⟨RX1, TX1, 9, tyX1, rfl, by decide, fun w h => TT_tbl w (uw_X1 w h), uw_X1, tt_at (i := 152) (by decide +kernel) rfl, rfl, tyX1_ok, nmX1, rfl, by decide +kernel⟩
theorem fl_RX1_30 : FL RX1 30 1 4 false .int := ⟨RX1, TX1, 9, tyX1, rfl, by decide, fun w h => TT_tbl w (uw_X1 w h), uw_X1, tt_at (i := 153) (by decide +kernel) rfl, rfl, tyX1_ok, nmX1, rfl, by decide +kernel⟩
theorem fl_RX5_176 : FL RX5 176 1 4 false .int := ⟨RX1, TX1, 9, tyX1, rfl, by decide, fun w h => TT_tbl w (uw_X1 w h), uw_X1, tt_at (i := 154) (by decide +kernel) rfl, rfl, tyX1_ok, nmX1, rfl, by decide +kernel⟩
theorem fl_RX1_33 : FL RX1 33 1 5 false .long := ⟨RX1, TX1, 9, tyX1, rfl, by decide, fun w h => TT_tbl w (uw_X1 w h), uw_X1, tt_at (i := 155) (by decide +kernel) rfl, rfl, tyX1_ok, nmX1, rfl, by decide +kernel⟩
theorem fl_RX5_114 : FL RX5 114 1 5 false .long := ⟨RX1, TX1, 9, tyX1, rfl, by decide, fun w h => TT_tbl w (uw_X1 w h), uw_X1, tt_at (i := 156) (by decide +kernel) rfl, rfl, tyX1_ok, nmX1, rfl, by decide +kernel⟩
theorem fl_RX1_37 : FL RX1 37 1 6 false .long := ⟨RX1, TX1, 9, tyX1, rfl, by decide, fun w h => TT_tbl w (uw_X1 w h), uw_X1, tt_at (i := 157) (by decide +kernel) rfl, rfl, tyX1_ok, nmX1, rfl, by decide +kernel⟩
theorem fl_RX5_263 : FL RX5 263 1 6 false .long := ⟨RX1, TX1, 9, tyX1, rfl, by decide, fun w h => TT_tbl w (uw_X1 w h), uw_X1, tt_at (i := 158) (by decide +kernel) rfl, rfl, tyX1_ok, nmX1, rfl, by decide +kernel⟩
theorem fl_RX1_40 : FL RX1 40 1 7 false .long := ⟨RX1, TX1, 9, tyX1, rfl, by decide, fun w h => TT_tbl w (uw_X1 w h), uw_X1, tt_at (i := 159) (by decide +kernel) rfl, rfl, tyX1_ok, nmX1, rfl, by decide +kernel⟩
theorem fl_RX3_138 : FL RX3 138 1 7 false .long := ⟨RX1, TX1, 9, tyX1, rfl, by decide, fun w h => TT_tbl w (uw_X1 w h), uw_X1, tt_at (i := 160) (by decide +kernel) rfl, rfl, tyX1_ok, nmX1, rfl, by decide +kernel⟩
theorem fl_RX5_260 : FL RX5 260 1 7 false .long := ⟨RX1, TX1, 9, tyX1, rfl, by decide, fun w h => TT_tbl w (uw_X1 w h), uw_X1, tt_at (i := 161) (by decide +kernel) rfl, rfl, tyX1_ok, nmX1, rfl, by decide +kernel⟩
theorem fl_RX1_43 : FL RX1 43 1 8 false .long := ⟨RX1, TX1, 9, tyX1, rfl, by decide, fun w h => TT_tbl w (uw_X1 w h), uw_X1, tt_at (i := 162) (by decide +kernel) rfl, rfl, tyX1_ok, nmX1, rfl, by decide +kernel⟩
theorem fl_RX5_268 : FL RX5 268 1 8 false .long := ⟨RX1, TX1, 9, tyX1, rfl, by decide, fun w h => TT_tbl w (uw_X1 w h), uw_X1, tt_at (i := 163) (by decide +kernel) rfl, rfl, tyX1_ok, nmX1, rfl, by decide +kernel⟩
theorem fl_RX3_12 : FL RX3 12 3 0 true (.object "WalkingOrchard$Land") := ⟨RX3, TX3, 7, tyX3, rfl, by decide, fun w h => TT_tbl w (uw_X3 w h), uw_X3, tt_at (i := 193) (by decide +kernel) rfl, rfl, tyX3_ok, nmX3, rfl, by decide +kernel⟩
theorem fl_RX5_80 : FL RX5 80 3 0 true (.object "WalkingOrchard$Land") := ⟨RX3, TX3, 7, tyX3, rfl, by decide, fun w h => TT_tbl w (uw_X3 w h), uw_X3, tt_at (i := 194) (by decide +kernel) rfl, rfl, tyX3_ok, nmX3, rfl, by decide +kernel⟩
theorem fl_RX3_23 : FL RX3 23 3 1 true (.object "WalkingOrchard$Orchard") := ⟨RX3, TX3, 7, tyX3, rfl, by decide, fun w h => TT_tbl w (uw_X3 w h), uw_X3, tt_at (i := 195) (by decide +kernel) rfl, rfl, tyX3_ok, nmX3, rfl, by decide +kernel⟩
theorem fl_RX5_84 : FL RX5 84 3 1 true (.object "WalkingOrchard$Orchard") := ⟨RX3, TX3, 7, tyX3, rfl, by decide, fun w h => TT_tbl w (uw_X3 w h), uw_X3, tt_at (i := 196) (by decide +kernel) rfl, rfl, tyX3_ok, nmX3, rfl, by decide +kernel⟩
theorem fl_RX3_27 : FL RX3 27 3 2 true (.array .int) := ⟨RX3, TX3, 7, tyX3, rfl, by decide, fun w h => TT_tbl w (uw_X3 w h), uw_X3, tt_at (i := 197) (by decide +kernel) rfl, rfl, tyX3_ok, nmX3, rfl, by decide +kernel⟩
theorem fl_RX3_96 : FL RX3 96 3 3 false .int := ⟨RX3, TX3, 7, tyX3, rfl, by decide, fun w h => TT_tbl w (uw_X3 w h), uw_X3, tt_at (i := 198) (by decide +kernel) rfl, rfl, tyX3_ok, nmX3, rfl, by decide +kernel⟩
theorem fl_RX3_31 : FL RX3 31 3 4 false (.array .char) := ⟨RX3, TX3, 7, tyX3, rfl, by decide, fun w h => TT_tbl w (uw_X3 w h), uw_X3, tt_at (i := 199) (by decide +kernel) rfl, rfl, tyX3_ok, nmX3, rfl, by decide +kernel⟩
theorem fl_RX3_41 : FL RX3 41 3 5 false .int := ⟨RX3, TX3, 7, tyX3, rfl, by decide, fun w h => TT_tbl w (uw_X3 w h), uw_X3, tt_at (i := 200) (by decide +kernel) rfl, rfl, tyX3_ok, nmX3, rfl, by decide +kernel⟩
theorem fl_RX3_45 : FL RX3 45 3 6 false .int := ⟨RX3, TX3, 7, tyX3, rfl, by decide, fun w h => TT_tbl w (uw_X3 w h), uw_X3, tt_at (i := 201) (by decide +kernel) rfl, rfl, tyX3_ok, nmX3, rfl, by decide +kernel⟩
theorem fl_RX2_9 : FL RX2 9 2 0 true (.array (.object "WalkingOrchard$Orchard")) := ⟨RX2, TX2, 2, tyX2, rfl, by decide, fun w h => TT_tbl w (uw_X2 w h), uw_X2, tt_at (i := 226) (by decide +kernel) rfl, rfl, tyX2_ok, nmX2, rfl, by decide +kernel⟩
theorem fl_RX2_18 : FL RX2 18 2 1 false .int := ⟨RX2, TX2, 2, tyX2, rfl, by decide, fun w h => TT_tbl w (uw_X2 w h), uw_X2, tt_at (i := 227) (by decide +kernel) rfl, rfl, tyX2_ok, nmX2, rfl, by decide +kernel⟩
theorem fl_RX5_197 : FL RX5 197 2 1 false .int := ⟨RX2, TX2, 2, tyX2, rfl, by decide, fun w h => TT_tbl w (uw_X2 w h), uw_X2, tt_at (i := 228) (by decide +kernel) rfl, rfl, tyX2_ok, nmX2, rfl, by decide +kernel⟩
theorem fl_RX5_9 : FL RX5 9 5 0 true (.array .char) := ⟨RX5, TX5, 14, tyX5, rfl, by decide, fun w h => TT_tbl w (uw_X5 w h), uw_X5, tt_at (i := 375) (by decide +kernel) rfl, rfl, tyX5_ok, nmX5, rfl, by decide +kernel⟩
theorem fl_RX5_90 : FL RX5 90 5 1 false .int := ⟨RX5, TX5, 14, tyX5, rfl, by decide, fun w h => TT_tbl w (uw_X5 w h), uw_X5, tt_at (i := 376) (by decide +kernel) rfl, rfl, tyX5_ok, nmX5, rfl, by decide +kernel⟩
theorem fl_RX5_16 : FL RX5 16 5 2 true (.object "WalkingOrchard$Land") := ⟨RX5, TX5, 14, tyX5, rfl, by decide, fun w h => TT_tbl w (uw_X5 w h), uw_X5, tt_at (i := 377) (by decide +kernel) rfl, rfl, tyX5_ok, nmX5, rfl, by decide +kernel⟩
theorem fl_RX5_25 : FL RX5 25 5 3 true (.object "WalkingOrchard$Orchard") := ⟨RX5, TX5, 14, tyX5, rfl, by decide, fun w h => TT_tbl w (uw_X5 w h), uw_X5, tt_at (i := 378) (by decide +kernel) rfl, rfl, tyX5_ok, nmX5, rfl, by decide +kernel⟩
theorem fl_RX5_29 : FL RX5 29 5 4 true (.object "WalkingOrchard$Orchard") := ⟨RX5, TX5, 14, tyX5, rfl, by decide, fun w h => TT_tbl w (uw_X5 w h), uw_X5, tt_at (i := 379) (by decide +kernel) rfl, rfl, tyX5_ok, nmX5, rfl, by decide +kernel⟩
theorem fl_RX5_35 : FL RX5 35 5 5 true (.object "WalkingOrchard$Reader") := ⟨RX5, TX5, 14, tyX5, rfl, by decide, fun w h => TT_tbl w (uw_X5 w h), uw_X5, tt_at (i := 380) (by decide +kernel) rfl, rfl, tyX5_ok, nmX5, rfl, by decide +kernel⟩
theorem fl_RX5_44 : FL RX5 44 5 6 true (.object "WalkingOrchard$Past") := ⟨RX5, TX5, 14, tyX5, rfl, by decide, fun w h => TT_tbl w (uw_X5 w h), uw_X5, tt_at (i := 381) (by decide +kernel) rfl, rfl, tyX5_ok, nmX5, rfl, by decide +kernel⟩
theorem fl_RX5_48 : FL RX5 48 5 7 true (.object "WalkingOrchard$Past") := ⟨RX5, TX5, 14, tyX5, rfl, by decide, fun w h => TT_tbl w (uw_X5 w h), uw_X5, tt_at (i := 382) (by decide +kernel) rfl, rfl, tyX5_ok, nmX5, rfl, by decide +kernel⟩
theorem fl_RX5_51 : FL RX5 51 5 8 true (.array .int) := ⟨RX5, TX5, 14, tyX5, rfl, by decide, fun w h => TT_tbl w (uw_X5 w h), uw_X5, tt_at (i := 383) (by decide +kernel) rfl, rfl, tyX5_ok, nmX5, rfl, by decide +kernel⟩
theorem fl_RX5_55 : FL RX5 55 5 9 true (.array .int) := ⟨RX5, TX5, 14, tyX5, rfl, by decide, fun w h => TT_tbl w (uw_X5 w h), uw_X5, tt_at (i := 384) (by decide +kernel) rfl, rfl, tyX5_ok, nmX5, rfl, by decide +kernel⟩
theorem fl_RX5_58 : FL RX5 58 5 10 true (.array .int) := ⟨RX5, TX5, 14, tyX5, rfl, by decide, fun w h => TT_tbl w (uw_X5 w h), uw_X5, tt_at (i := 385) (by decide +kernel) rfl, rfl, tyX5_ok, nmX5, rfl, by decide +kernel⟩
theorem fl_RX5_97 : FL RX5 97 5 11 false .int := ⟨RX5, TX5, 14, tyX5, rfl, by decide, fun w h => TT_tbl w (uw_X5 w h), uw_X5, tt_at (i := 386) (by decide +kernel) rfl, rfl, tyX5_ok, nmX5, rfl, by decide +kernel⟩
theorem fl_RX5_61 : FL RX5 61 5 12 true (.array .int) := ⟨RX5, TX5, 14, tyX5, rfl, by decide, fun w h => TT_tbl w (uw_X5 w h), uw_X5, tt_at (i := 387) (by decide +kernel) rfl, rfl, tyX5_ok, nmX5, rfl, by decide +kernel⟩
theorem fl_RX5_64 : FL RX5 64 5 13 true (.array .long) := ⟨RX5, TX5, 14, tyX5, rfl, by decide, fun w h => TT_tbl w (uw_X5 w h), uw_X5, tt_at (i := 388) (by decide +kernel) rfl, rfl, tyX5_ok, nmX5, rfl, by decide +kernel⟩
theorem fl_RX6_7 : FL RX6 7 6 0 true (.array .int) := ⟨RX6, TX6, 14, tyX6, rfl, by decide, fun w h => TT_tbl w (uw_X6 w h), uw_X6, tt_at (i := 731) (by decide +kernel) rfl, rfl, tyX6_ok, nmX6, rfl, by decide +kernel⟩
theorem fl_RX6_58 : FL RX6 58 6 1 false .int := ⟨RX6, TX6, 14, tyX6, rfl, by decide, fun w h => TT_tbl w (uw_X6 w h), uw_X6, tt_at (i := 732) (by decide +kernel) rfl, rfl, tyX6_ok, nmX6, rfl, by decide +kernel⟩
theorem fl_RX6_13 : FL RX6 13 6 2 true (.array .int) := ⟨RX6, TX6, 14, tyX6, rfl, by decide, fun w h => TT_tbl w (uw_X6 w h), uw_X6, tt_at (i := 733) (by decide +kernel) rfl, rfl, tyX6_ok, nmX6, rfl, by decide +kernel⟩
theorem fl_RX6_16 : FL RX6 16 6 3 true (.array .int) := ⟨RX6, TX6, 14, tyX6, rfl, by decide, fun w h => TT_tbl w (uw_X6 w h), uw_X6, tt_at (i := 734) (by decide +kernel) rfl, rfl, tyX6_ok, nmX6, rfl, by decide +kernel⟩
theorem fl_RX6_19 : FL RX6 19 6 4 true (.array .int) := ⟨RX6, TX6, 14, tyX6, rfl, by decide, fun w h => TT_tbl w (uw_X6 w h), uw_X6, tt_at (i := 735) (by decide +kernel) rfl, rfl, tyX6_ok, nmX6, rfl, by decide +kernel⟩
theorem fl_RX6_22 : FL RX6 22 6 5 true (.array .int) := ⟨RX6, TX6, 14, tyX6, rfl, by decide, fun w h => TT_tbl w (uw_X6 w h), uw_X6, tt_at (i := 736) (by decide +kernel) rfl, rfl, tyX6_ok, nmX6, rfl, by decide +kernel⟩
theorem fl_RX6_25 : FL RX6 25 6 6 true (.array .int) := ⟨RX6, TX6, 14, tyX6, rfl, by decide, fun w h => TT_tbl w (uw_X6 w h), uw_X6, tt_at (i := 737) (by decide +kernel) rfl, rfl, tyX6_ok, nmX6, rfl, by decide +kernel⟩
theorem fl_RX6_101 : FL RX6 101 6 7 false .int := ⟨RX6, TX6, 14, tyX6, rfl, by decide, fun w h => TT_tbl w (uw_X6 w h), uw_X6, tt_at (i := 738) (by decide +kernel) rfl, rfl, tyX6_ok, nmX6, rfl, by decide +kernel⟩
theorem fl_RX6_28 : FL RX6 28 6 8 true (.array .int) := ⟨RX6, TX6, 14, tyX6, rfl, by decide, fun w h => TT_tbl w (uw_X6 w h), uw_X6, tt_at (i := 739) (by decide +kernel) rfl, rfl, tyX6_ok, nmX6, rfl, by decide +kernel⟩
theorem fl_RX6_104 : FL RX6 104 6 9 false .int := ⟨RX6, TX6, 14, tyX6, rfl, by decide, fun w h => TT_tbl w (uw_X6 w h), uw_X6, tt_at (i := 740) (by decide +kernel) rfl, rfl, tyX6_ok, nmX6, rfl, by decide +kernel⟩
theorem fl_RX6_31 : FL RX6 31 6 10 true (.array .int) := ⟨RX6, TX6, 14, tyX6, rfl, by decide, fun w h => TT_tbl w (uw_X6 w h), uw_X6, tt_at (i := 741) (by decide +kernel) rfl, rfl, tyX6_ok, nmX6, rfl, by decide +kernel⟩
theorem fl_RX6_107 : FL RX6 107 6 11 false .int := ⟨RX6, TX6, 14, tyX6, rfl, by decide, fun w h => TT_tbl w (uw_X6 w h), uw_X6, tt_at (i := 742) (by decide +kernel) rfl, rfl, tyX6_ok, nmX6, rfl, by decide +kernel⟩
theorem fl_RX6_62 : FL RX6 62 6 12 false .int := ⟨RX6, TX6, 14, tyX6, rfl, by decide, fun w h => TT_tbl w (uw_X6 w h), uw_X6, tt_at (i := 743) (by decide +kernel) rfl, rfl, tyX6_ok, nmX6, rfl, by decide +kernel⟩
theorem fl_RX6_34 : FL RX6 34 6 13 true (.array .int) := ⟨RX6, TX6, 14, tyX6, rfl, by decide, fun w h => TT_tbl w (uw_X6 w h), uw_X6, tt_at (i := 744) (by decide +kernel) rfl, rfl, tyX6_ok, nmX6, rfl, by decide +kernel⟩
