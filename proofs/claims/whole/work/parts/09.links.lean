/-! the methods, and what the tables say of them (written by gen_links.py) -/
theorem tb_1 : ∀ w ∈ tables_1_1, w ∈ lw_tbl := fun _ h => List.mem_append_right _ (List.mem_append_left _ h)
theorem tb_2 : ∀ w ∈ tables_1_2, w ∈ lw_tbl := fun _ h => List.mem_append_right _ (List.mem_append_right _ (List.mem_append_left _ h))
theorem tb_3 : ∀ w ∈ tables_1_3, w ∈ lw_tbl := fun _ h => List.mem_append_right _ (List.mem_append_right _ (List.mem_append_right _ (List.mem_append_left _ h)))
theorem tb_4 : ∀ w ∈ tables_1_4, w ∈ lw_tbl := fun _ h => List.mem_append_right _ (List.mem_append_right _ (List.mem_append_right _ (List.mem_append_right _ (List.mem_append_left _ h))))
theorem tb_5 : ∀ w ∈ tables_1_5, w ∈ lw_tbl := fun _ h => List.mem_append_right _ (List.mem_append_right _ (List.mem_append_right _ (List.mem_append_right _ (List.mem_append_right _ (List.mem_append_left _ h)))))
theorem tb_6 : ∀ w ∈ tables_1_6, w ∈ lw_tbl := fun _ h => List.mem_append_right _ (List.mem_append_right _ (List.mem_append_right _ (List.mem_append_right _ (List.mem_append_right _ (List.mem_append_right _ (h))))))
abbrev mX3_init : zM := (yX3_init, cX3_init, 1, none)
theorem oX3_init : zOk mX3_init 0 := ⟨zTb_of (tb_1 _ (List.mem_of_getElem? (i := 35) rfl)) rfl, zTb_of (tb_1 _ (List.mem_of_getElem? (i := 3) rfl)) rfl, by decide +kernel, by decide⟩
theorem iX3_init : Cond.instanceMethod yX3_init ∈ zTb := zTb_of (tb_1 _ (List.mem_of_getElem? (i := 34) rfl)) rfl
abbrev mX0_init : zM := (yX0_init, cX0_init, 1, none)
theorem oX0_init : zOk mX0_init 0 := ⟨zTb_of (tb_1 _ (List.mem_of_getElem? (i := 29) rfl)) rfl, zTb_of (tb_1 _ (List.mem_of_getElem? (i := 2) rfl)) rfl, by decide +kernel, by decide⟩
theorem iX0_init : Cond.instanceMethod yX0_init ∈ zTb := zTb_of (tb_1 _ (List.mem_of_getElem? (i := 28) rfl)) rfl
abbrev mX3_setTo : zM := (yX3_setTo, cX3_setTo, 2, none)
theorem oX3_setTo : zOk mX3_setTo 1 := ⟨zTb_of (tb_2 _ (List.mem_of_getElem? (i := 170) rfl)) rfl, zTb_of (tb_1 _ (List.mem_of_getElem? (i := 3) rfl)) rfl, by decide +kernel, by decide⟩
theorem iX3_setTo : Cond.instanceMethod yX3_setTo ∈ zTb := zTb_of (tb_2 _ (List.mem_of_getElem? (i := 168) rfl)) rfl
theorem eX3_setTo : Cond.selects yX3_setTo.cls yX3_setTo yX3_setTo ∈ zTb := zTb_of (tb_2 _ (List.mem_of_getElem? (i := 169) rfl)) rfl
abbrev mX0_setTo : zM := (yX0_setTo, cX0_setTo, 2, none)
theorem oX0_setTo : zOk mX0_setTo 1 := ⟨zTb_of (tb_2 _ (List.mem_of_getElem? (i := 165) rfl)) rfl, zTb_of (tb_1 _ (List.mem_of_getElem? (i := 2) rfl)) rfl, by decide +kernel, by decide⟩
theorem iX0_setTo : Cond.instanceMethod yX0_setTo ∈ zTb := zTb_of (tb_2 _ (List.mem_of_getElem? (i := 163) rfl)) rfl
theorem eX0_setTo : Cond.selects yX0_setTo.cls yX0_setTo yX0_setTo ∈ zTb := zTb_of (tb_2 _ (List.mem_of_getElem? (i := 164) rfl)) rfl
abbrev mX0_isCell : zM := (yX0_isCell, cX0_isCell, 2, (some .boolean))
theorem oX0_isCell : zOk mX0_isCell 1 := ⟨zTb_of (tb_2 _ (List.mem_of_getElem? (i := 83) rfl)) rfl, zTb_of (tb_1 _ (List.mem_of_getElem? (i := 2) rfl)) rfl, by decide +kernel, by decide⟩
theorem iX0_isCell : Cond.instanceMethod yX0_isCell ∈ zTb := zTb_of (tb_2 _ (List.mem_of_getElem? (i := 81) rfl)) rfl
theorem eX0_isCell : Cond.selects yX0_isCell.cls yX0_isCell yX0_isCell ∈ zTb := zTb_of (tb_2 _ (List.mem_of_getElem? (i := 82) rfl)) rfl
abbrev mX5_bitOf : zM := (yX5_bitOf, cX5_bitOf, 1, (some .long))
theorem oX5_bitOf : zOk mX5_bitOf 1 := ⟨zTb_of (tb_2 _ (List.mem_of_getElem? (i := 86) rfl)) rfl, zTb_of (tb_1 _ (List.mem_of_getElem? (i := 1) rfl)) rfl, by decide +kernel, by decide⟩
theorem sX5_bitOf : Cond.static yX5_bitOf ∈ zTb := zTb_of (tb_2 _ (List.mem_of_getElem? (i := 85) rfl)) rfl
abbrev mX0_isWall : zM := (yX0_isWall, cX0_isWall, 2, (some .boolean))
theorem oX0_isWall : zOk mX0_isWall 1 := ⟨zTb_of (tb_2 _ (List.mem_of_getElem? (i := 107) rfl)) rfl, zTb_of (tb_1 _ (List.mem_of_getElem? (i := 2) rfl)) rfl, by decide +kernel, by decide⟩
theorem iX0_isWall : Cond.instanceMethod yX0_isWall ∈ zTb := zTb_of (tb_2 _ (List.mem_of_getElem? (i := 105) rfl)) rfl
theorem eX0_isWall : Cond.selects yX0_isWall.cls yX0_isWall yX0_isWall ∈ zTb := zTb_of (tb_2 _ (List.mem_of_getElem? (i := 106) rfl)) rfl
abbrev mX0_setWall : zM := (yX0_setWall, cX0_setWall, 3, none)
theorem oX0_setWall : zOk mX0_setWall 2 := ⟨zTb_of (tb_2 _ (List.mem_of_getElem? (i := 111) rfl)) rfl, zTb_of (tb_1 _ (List.mem_of_getElem? (i := 2) rfl)) rfl, by decide +kernel, by decide⟩
theorem iX0_setWall : Cond.instanceMethod yX0_setWall ∈ zTb := zTb_of (tb_2 _ (List.mem_of_getElem? (i := 109) rfl)) rfl
theorem eX0_setWall : Cond.selects yX0_setWall.cls yX0_setWall yX0_setWall ∈ zTb := zTb_of (tb_2 _ (List.mem_of_getElem? (i := 110) rfl)) rfl
abbrev mX0_isOpen : zM := (yX0_isOpen, cX0_isOpen, 2, (some .boolean))
theorem oX0_isOpen : zOk mX0_isOpen 1 := ⟨zTb_of (tb_2 _ (List.mem_of_getElem? (i := 79) rfl)) rfl, zTb_of (tb_1 _ (List.mem_of_getElem? (i := 2) rfl)) rfl, by decide +kernel, by decide⟩
theorem iX0_isOpen : Cond.instanceMethod yX0_isOpen ∈ zTb := zTb_of (tb_2 _ (List.mem_of_getElem? (i := 77) rfl)) rfl
theorem eX0_isOpen : Cond.selects yX0_isOpen.cls yX0_isOpen yX0_isOpen ∈ zTb := zTb_of (tb_2 _ (List.mem_of_getElem? (i := 78) rfl)) rfl
abbrev mX0_mayBeDogs : zM := (yX0_mayBeDogs, cX0_mayBeDogs, 2, (some .boolean))
theorem oX0_mayBeDogs : zOk mX0_mayBeDogs 1 := ⟨zTb_of (tb_2 _ (List.mem_of_getElem? (i := 128) rfl)) rfl, zTb_of (tb_1 _ (List.mem_of_getElem? (i := 2) rfl)) rfl, by decide +kernel, by decide⟩
theorem iX0_mayBeDogs : Cond.instanceMethod yX0_mayBeDogs ∈ zTb := zTb_of (tb_2 _ (List.mem_of_getElem? (i := 126) rfl)) rfl
theorem eX0_mayBeDogs : Cond.selects yX0_mayBeDogs.cls yX0_mayBeDogs yX0_mayBeDogs ∈ zTb := zTb_of (tb_2 _ (List.mem_of_getElem? (i := 127) rfl)) rfl
abbrev mX0_hasEweAt : zM := (yX0_hasEweAt, cX0_hasEweAt, 3, (some .boolean))
theorem oX0_hasEweAt : zOk mX0_hasEweAt 1 := ⟨zTb_of (tb_2 _ (List.mem_of_getElem? (i := 103) rfl)) rfl, zTb_of (tb_1 _ (List.mem_of_getElem? (i := 2) rfl)) rfl, by decide +kernel, by decide⟩
theorem iX0_hasEweAt : Cond.instanceMethod yX0_hasEweAt ∈ zTb := zTb_of (tb_2 _ (List.mem_of_getElem? (i := 101) rfl)) rfl
theorem eX0_hasEweAt : Cond.selects yX0_hasEweAt.cls yX0_hasEweAt yX0_hasEweAt ∈ zTb := zTb_of (tb_2 _ (List.mem_of_getElem? (i := 102) rfl)) rfl
abbrev mX0_mayBeWall : zM := (yX0_mayBeWall, cX0_mayBeWall, 2, (some .boolean))
theorem oX0_mayBeWall : zOk mX0_mayBeWall 1 := ⟨zTb_of (tb_2 _ (List.mem_of_getElem? (i := 99) rfl)) rfl, zTb_of (tb_1 _ (List.mem_of_getElem? (i := 2) rfl)) rfl, by decide +kernel, by decide⟩
theorem iX0_mayBeWall : Cond.instanceMethod yX0_mayBeWall ∈ zTb := zTb_of (tb_2 _ (List.mem_of_getElem? (i := 97) rfl)) rfl
theorem eX0_mayBeWall : Cond.selects yX0_mayBeWall.cls yX0_mayBeWall yX0_mayBeWall ∈ zTb := zTb_of (tb_2 _ (List.mem_of_getElem? (i := 98) rfl)) rfl
abbrev mX0_mayBePen : zM := (yX0_mayBePen, cX0_mayBePen, 2, (some .boolean))
theorem oX0_mayBePen : zOk mX0_mayBePen 1 := ⟨zTb_of (tb_2 _ (List.mem_of_getElem? (i := 120) rfl)) rfl, zTb_of (tb_1 _ (List.mem_of_getElem? (i := 2) rfl)) rfl, by decide +kernel, by decide⟩
theorem iX0_mayBePen : Cond.instanceMethod yX0_mayBePen ∈ zTb := zTb_of (tb_2 _ (List.mem_of_getElem? (i := 118) rfl)) rfl
theorem eX0_mayBePen : Cond.selects yX0_mayBePen.cls yX0_mayBePen yX0_mayBePen ∈ zTb := zTb_of (tb_2 _ (List.mem_of_getElem? (i := 119) rfl)) rfl
abbrev mX0_isEwe : zM := (yX0_isEwe, cX0_isEwe, 2, (some .boolean))
theorem oX0_isEwe : zOk mX0_isEwe 1 := ⟨zTb_of (tb_2 _ (List.mem_of_getElem? (i := 37) rfl)) rfl, zTb_of (tb_1 _ (List.mem_of_getElem? (i := 2) rfl)) rfl, by decide +kernel, by decide⟩
theorem iX0_isEwe : Cond.instanceMethod yX0_isEwe ∈ zTb := zTb_of (tb_2 _ (List.mem_of_getElem? (i := 35) rfl)) rfl
theorem eX0_isEwe : Cond.selects yX0_isEwe.cls yX0_isEwe yX0_isEwe ∈ zTb := zTb_of (tb_2 _ (List.mem_of_getElem? (i := 36) rfl)) rfl
abbrev mX0_addEwe : zM := (yX0_addEwe, cX0_addEwe, 5, (some .int))
theorem oX0_addEwe : zOk mX0_addEwe 3 := ⟨zTb_of (tb_2 _ (List.mem_of_getElem? (i := 137) rfl)) rfl, zTb_of (tb_1 _ (List.mem_of_getElem? (i := 2) rfl)) rfl, by decide +kernel, by decide⟩
theorem iX0_addEwe : Cond.instanceMethod yX0_addEwe ∈ zTb := zTb_of (tb_2 _ (List.mem_of_getElem? (i := 135) rfl)) rfl
theorem eX0_addEwe : Cond.selects yX0_addEwe.cls yX0_addEwe yX0_addEwe ∈ zTb := zTb_of (tb_2 _ (List.mem_of_getElem? (i := 136) rfl)) rfl
abbrev mX0_isIn : zM := (yX0_isIn, cX0_isIn, 3, (some .boolean))
theorem oX0_isIn : zOk mX0_isIn 2 := ⟨zTb_of (tb_3 _ (List.mem_of_getElem? (i := 174) rfl)) rfl, zTb_of (tb_1 _ (List.mem_of_getElem? (i := 2) rfl)) rfl, by decide +kernel, by decide⟩
theorem iX0_isIn : Cond.instanceMethod yX0_isIn ∈ zTb := zTb_of (tb_3 _ (List.mem_of_getElem? (i := 172) rfl)) rfl
theorem eX0_isIn : Cond.selects yX0_isIn.cls yX0_isIn yX0_isIn ∈ zTb := zTb_of (tb_3 _ (List.mem_of_getElem? (i := 173) rfl)) rfl
abbrev mX5_stepsBetween : zM := (yX5_stepsBetween, cX5_stepsBetween, 2, (some .int))
theorem oX5_stepsBetween : zOk mX5_stepsBetween 2 := ⟨zTb_of (tb_2 _ (List.mem_of_getElem? (i := 64) rfl)) rfl, zTb_of (tb_1 _ (List.mem_of_getElem? (i := 1) rfl)) rfl, by decide +kernel, by decide⟩
theorem sX5_stepsBetween : Cond.static yX5_stepsBetween ∈ zTb := zTb_of (tb_2 _ (List.mem_of_getElem? (i := 63) rfl)) rfl
abbrev mX0_countWithin : zM := (yX0_countWithin, cX0_countWithin, 5, (some .int))
theorem oX0_countWithin : zOk mX0_countWithin 2 := ⟨zTb_of (tb_3 _ (List.mem_of_getElem? (i := 68) rfl)) rfl, zTb_of (tb_1 _ (List.mem_of_getElem? (i := 2) rfl)) rfl, by decide +kernel, by decide⟩
theorem iX0_countWithin : Cond.instanceMethod yX0_countWithin ∈ zTb := zTb_of (tb_3 _ (List.mem_of_getElem? (i := 66) rfl)) rfl
theorem eX0_countWithin : Cond.selects yX0_countWithin.cls yX0_countWithin yX0_countWithin ∈ zTb := zTb_of (tb_3 _ (List.mem_of_getElem? (i := 67) rfl)) rfl
abbrev mX0_countIn : zM := (yX0_countIn, cX0_countIn, 2, (some .int))
theorem oX0_countIn : zOk mX0_countIn 1 := ⟨zTb_of (tb_3 _ (List.mem_of_getElem? (i := 96) rfl)) rfl, zTb_of (tb_1 _ (List.mem_of_getElem? (i := 2) rfl)) rfl, by decide +kernel, by decide⟩
theorem iX0_countIn : Cond.instanceMethod yX0_countIn ∈ zTb := zTb_of (tb_3 _ (List.mem_of_getElem? (i := 94) rfl)) rfl
theorem eX0_countIn : Cond.selects yX0_countIn.cls yX0_countIn yX0_countIn ∈ zTb := zTb_of (tb_3 _ (List.mem_of_getElem? (i := 95) rfl)) rfl
abbrev mX0_stepsToPen : zM := (yX0_stepsToPen, cX0_stepsToPen, 4, (some .int))
theorem oX0_stepsToPen : zOk mX0_stepsToPen 1 := ⟨zTb_of (tb_3 _ (List.mem_of_getElem? (i := 108) rfl)) rfl, zTb_of (tb_1 _ (List.mem_of_getElem? (i := 2) rfl)) rfl, by decide +kernel, by decide⟩
theorem iX0_stepsToPen : Cond.instanceMethod yX0_stepsToPen ∈ zTb := zTb_of (tb_3 _ (List.mem_of_getElem? (i := 106) rfl)) rfl
theorem eX0_stepsToPen : Cond.selects yX0_stepsToPen.cls yX0_stepsToPen yX0_stepsToPen ∈ zTb := zTb_of (tb_3 _ (List.mem_of_getElem? (i := 107) rfl)) rfl
abbrev mX0_canDo : zM := (yX0_canDo, cX0_canDo, 3, (some .boolean))
theorem oX0_canDo : zOk mX0_canDo 2 := ⟨zTb_of (tb_3 _ (List.mem_of_getElem? (i := 76) rfl)) rfl, zTb_of (tb_1 _ (List.mem_of_getElem? (i := 2) rfl)) rfl, by decide +kernel, by decide⟩
theorem iX0_canDo : Cond.instanceMethod yX0_canDo ∈ zTb := zTb_of (tb_3 _ (List.mem_of_getElem? (i := 74) rfl)) rfl
theorem eX0_canDo : Cond.selects yX0_canDo.cls yX0_canDo yX0_canDo ∈ zTb := zTb_of (tb_3 _ (List.mem_of_getElem? (i := 75) rfl)) rfl
abbrev mX0_leaderOf : zM := (yX0_leaderOf, cX0_leaderOf, 4, (some .int))
theorem oX0_leaderOf : zOk mX0_leaderOf 2 := ⟨zTb_of (tb_2 _ (List.mem_of_getElem? (i := 59) rfl)) rfl, zTb_of (tb_1 _ (List.mem_of_getElem? (i := 2) rfl)) rfl, by decide +kernel, by decide⟩
theorem iX0_leaderOf : Cond.instanceMethod yX0_leaderOf ∈ zTb := zTb_of (tb_2 _ (List.mem_of_getElem? (i := 58) rfl)) rfl
theorem eX0_leaderOf : Cond.selects yX0_leaderOf.cls yX0_leaderOf yX0_leaderOf ∈ zTb := zTb_of (List.mem_append_left _ (List.mem_map.mpr ⟨_, List.mem_of_getElem? (i := 2) rfl, rfl⟩)) rfl
abbrev mX0_nextFrom : zM := (yX0_nextFrom, cX0_nextFrom, 10, (some .int))
theorem oX0_nextFrom : zOk mX0_nextFrom 3 := ⟨zTb_of (tb_2 _ (List.mem_of_getElem? (i := 73) rfl)) rfl, zTb_of (tb_1 _ (List.mem_of_getElem? (i := 2) rfl)) rfl, by decide +kernel, by decide⟩
theorem iX0_nextFrom : Cond.instanceMethod yX0_nextFrom ∈ zTb := zTb_of (tb_2 _ (List.mem_of_getElem? (i := 72) rfl)) rfl
theorem eX0_nextFrom : Cond.selects yX0_nextFrom.cls yX0_nextFrom yX0_nextFrom ∈ zTb := zTb_of (List.mem_append_left _ (List.mem_map.mpr ⟨_, List.mem_of_getElem? (i := 3) rfl, rfl⟩)) rfl
abbrev mX0_goalOf : zM := (yX0_goalOf, cX0_goalOf, 9, (some .int))
theorem oX0_goalOf : zOk mX0_goalOf 3 := ⟨zTb_of (tb_2 _ (List.mem_of_getElem? (i := 53) rfl)) rfl, zTb_of (tb_1 _ (List.mem_of_getElem? (i := 2) rfl)) rfl, by decide +kernel, by decide⟩
theorem iX0_goalOf : Cond.instanceMethod yX0_goalOf ∈ zTb := zTb_of (tb_2 _ (List.mem_of_getElem? (i := 51) rfl)) rfl
theorem eX0_goalOf : Cond.selects yX0_goalOf.cls yX0_goalOf yX0_goalOf ∈ zTb := zTb_of (tb_2 _ (List.mem_of_getElem? (i := 52) rfl)) rfl
abbrev mX0_takeTurn : zM := (yX0_takeTurn, cX0_takeTurn, 4, none)
theorem oX0_takeTurn : zOk mX0_takeTurn 2 := ⟨zTb_of (tb_3 _ (List.mem_of_getElem? (i := 82) rfl)) rfl, zTb_of (tb_1 _ (List.mem_of_getElem? (i := 2) rfl)) rfl, by decide +kernel, by decide⟩
theorem iX0_takeTurn : Cond.instanceMethod yX0_takeTurn ∈ zTb := zTb_of (tb_3 _ (List.mem_of_getElem? (i := 80) rfl)) rfl
theorem eX0_takeTurn : Cond.selects yX0_takeTurn.cls yX0_takeTurn yX0_takeTurn ∈ zTb := zTb_of (tb_3 _ (List.mem_of_getElem? (i := 81) rfl)) rfl
abbrev mX0_wouldGo : zM := (yX0_wouldGo, cX0_wouldGo, 3, (some .boolean))
theorem oX0_wouldGo : zOk mX0_wouldGo 2 := ⟨zTb_of (tb_3 _ (List.mem_of_getElem? (i := 116) rfl)) rfl, zTb_of (tb_1 _ (List.mem_of_getElem? (i := 2) rfl)) rfl, by decide +kernel, by decide⟩
theorem iX0_wouldGo : Cond.instanceMethod yX0_wouldGo ∈ zTb := zTb_of (tb_3 _ (List.mem_of_getElem? (i := 114) rfl)) rfl
theorem eX0_wouldGo : Cond.selects yX0_wouldGo.cls yX0_wouldGo yX0_wouldGo ∈ zTb := zTb_of (tb_3 _ (List.mem_of_getElem? (i := 115) rfl)) rfl
abbrev mX0_moved : zM := (yX0_moved, cX0_moved, 4, (some .int))
theorem oX0_moved : zOk mX0_moved 1 := ⟨zTb_of (tb_3 _ (List.mem_of_getElem? (i := 191) rfl)) rfl, zTb_of (tb_1 _ (List.mem_of_getElem? (i := 2) rfl)) rfl, by decide +kernel, by decide⟩
theorem iX0_moved : Cond.instanceMethod yX0_moved ∈ zTb := zTb_of (tb_3 _ (List.mem_of_getElem? (i := 189) rfl)) rfl
theorem eX0_moved : Cond.selects yX0_moved.cls yX0_moved yX0_moved ∈ zTb := zTb_of (tb_3 _ (List.mem_of_getElem? (i := 190) rfl)) rfl
abbrev mX0_notIn : zM := (yX0_notIn, cX0_notIn, 3, (some .int))
theorem oX0_notIn : zOk mX0_notIn 0 := ⟨zTb_of (tb_4 _ (List.mem_of_getElem? (i := 13) rfl)) rfl, zTb_of (tb_1 _ (List.mem_of_getElem? (i := 2) rfl)) rfl, by decide +kernel, by decide⟩
theorem iX0_notIn : Cond.instanceMethod yX0_notIn ∈ zTb := zTb_of (tb_4 _ (List.mem_of_getElem? (i := 11) rfl)) rfl
theorem eX0_notIn : Cond.selects yX0_notIn.cls yX0_notIn yX0_notIn ∈ zTb := zTb_of (tb_4 _ (List.mem_of_getElem? (i := 12) rfl)) rfl
abbrev mX0_farthestFrom : zM := (yX0_farthestFrom, cX0_farthestFrom, 5, (some .int))
theorem oX0_farthestFrom : zOk mX0_farthestFrom 2 := ⟨zTb_of (tb_3 _ (List.mem_of_getElem? (i := 178) rfl)) rfl, zTb_of (tb_1 _ (List.mem_of_getElem? (i := 2) rfl)) rfl, by decide +kernel, by decide⟩
theorem iX0_farthestFrom : Cond.instanceMethod yX0_farthestFrom ∈ zTb := zTb_of (tb_3 _ (List.mem_of_getElem? (i := 177) rfl)) rfl
theorem eX0_farthestFrom : Cond.selects yX0_farthestFrom.cls yX0_farthestFrom yX0_farthestFrom ∈ zTb := zTb_of (List.mem_append_left _ (List.mem_map.mpr ⟨_, List.mem_of_getElem? (i := 20) rfl, rfl⟩)) rfl
abbrev mX0_apart : zM := (yX0_apart, cX0_apart, 4, (some .int))
theorem oX0_apart : zOk mX0_apart 1 := ⟨zTb_of (tb_3 _ (List.mem_of_getElem? (i := 170) rfl)) rfl, zTb_of (tb_1 _ (List.mem_of_getElem? (i := 2) rfl)) rfl, by decide +kernel, by decide⟩
theorem iX0_apart : Cond.instanceMethod yX0_apart ∈ zTb := zTb_of (tb_3 _ (List.mem_of_getElem? (i := 168) rfl)) rfl
theorem eX0_apart : Cond.selects yX0_apart.cls yX0_apart yX0_apart ∈ zTb := zTb_of (tb_3 _ (List.mem_of_getElem? (i := 169) rfl)) rfl
abbrev mX0_flock : zM := (yX0_flock, cX0_flock, 3, (some .int))
theorem oX0_flock : zOk mX0_flock 0 := ⟨zTb_of (tb_3 _ (List.mem_of_getElem? (i := 183) rfl)) rfl, zTb_of (tb_1 _ (List.mem_of_getElem? (i := 2) rfl)) rfl, by decide +kernel, by decide⟩
theorem iX0_flock : Cond.instanceMethod yX0_flock ∈ zTb := zTb_of (tb_3 _ (List.mem_of_getElem? (i := 181) rfl)) rfl
theorem eX0_flock : Cond.selects yX0_flock.cls yX0_flock yX0_flock ∈ zTb := zTb_of (tb_3 _ (List.mem_of_getElem? (i := 182) rfl)) rfl
abbrev mX0_nearest : zM := (yX0_nearest, cX0_nearest, 5, (some .int))
theorem oX0_nearest : zOk mX0_nearest 0 := ⟨zTb_of (tb_3 _ (List.mem_of_getElem? (i := 187) rfl)) rfl, zTb_of (tb_1 _ (List.mem_of_getElem? (i := 2) rfl)) rfl, by decide +kernel, by decide⟩
theorem iX0_nearest : Cond.instanceMethod yX0_nearest ∈ zTb := zTb_of (tb_3 _ (List.mem_of_getElem? (i := 185) rfl)) rfl
theorem eX0_nearest : Cond.selects yX0_nearest.cls yX0_nearest yX0_nearest ∈ zTb := zTb_of (tb_3 _ (List.mem_of_getElem? (i := 186) rfl)) rfl
abbrev mX0_draw : zM := (yX0_draw, cX0_draw, 2, (some .int))
theorem oX0_draw : zOk mX0_draw 1 := ⟨zTb_of (tb_4 _ (List.mem_of_getElem? (i := 81) rfl)) rfl, zTb_of (tb_1 _ (List.mem_of_getElem? (i := 2) rfl)) rfl, by decide +kernel, by decide⟩
theorem iX0_draw : Cond.instanceMethod yX0_draw ∈ zTb := zTb_of (tb_4 _ (List.mem_of_getElem? (i := 79) rfl)) rfl
theorem eX0_draw : Cond.selects yX0_draw.cls yX0_draw yX0_draw ∈ zTb := zTb_of (tb_4 _ (List.mem_of_getElem? (i := 80) rfl)) rfl
abbrev mX0_eweBits : zM := (yX0_eweBits, cX0_eweBits, 4, (some .long))
theorem oX0_eweBits : zOk mX0_eweBits 0 := ⟨zTb_of (tb_3 _ (List.mem_of_getElem? (i := 144) rfl)) rfl, zTb_of (tb_1 _ (List.mem_of_getElem? (i := 2) rfl)) rfl, by decide +kernel, by decide⟩
theorem iX0_eweBits : Cond.instanceMethod yX0_eweBits ∈ zTb := zTb_of (tb_3 _ (List.mem_of_getElem? (i := 142) rfl)) rfl
theorem eX0_eweBits : Cond.selects yX0_eweBits.cls yX0_eweBits yX0_eweBits ∈ zTb := zTb_of (tb_3 _ (List.mem_of_getElem? (i := 143) rfl)) rfl
abbrev mX0_dogsGround : zM := (yX0_dogsGround, cX0_dogsGround, 4, (some .long))
theorem oX0_dogsGround : zOk mX0_dogsGround 0 := ⟨zTb_of (tb_3 _ (List.mem_of_getElem? (i := 201) rfl)) rfl, zTb_of (tb_1 _ (List.mem_of_getElem? (i := 2) rfl)) rfl, by decide +kernel, by decide⟩
theorem iX0_dogsGround : Cond.instanceMethod yX0_dogsGround ∈ zTb := zTb_of (tb_3 _ (List.mem_of_getElem? (i := 199) rfl)) rfl
theorem eX0_dogsGround : Cond.selects yX0_dogsGround.cls yX0_dogsGround yX0_dogsGround ∈ zTb := zTb_of (tb_3 _ (List.mem_of_getElem? (i := 200) rfl)) rfl
abbrev mX0_rowBits : zM := (yX0_rowBits, cX0_rowBits, 1, (some .long))
theorem oX0_rowBits : zOk mX0_rowBits 1 := ⟨zTb_of (tb_3 _ (List.mem_of_getElem? (i := 147) rfl)) rfl, zTb_of (tb_1 _ (List.mem_of_getElem? (i := 2) rfl)) rfl, by decide +kernel, by decide⟩
theorem sX0_rowBits : Cond.static yX0_rowBits ∈ zTb := zTb_of (tb_3 _ (List.mem_of_getElem? (i := 146) rfl)) rfl
abbrev mX0_columnBits : zM := (yX0_columnBits, cX0_columnBits, 1, (some .long))
theorem oX0_columnBits : zOk mX0_columnBits 1 := ⟨zTb_of (tb_3 _ (List.mem_of_getElem? (i := 151) rfl)) rfl, zTb_of (tb_1 _ (List.mem_of_getElem? (i := 2) rfl)) rfl, by decide +kernel, by decide⟩
theorem sX0_columnBits : Cond.static yX0_columnBits ∈ zTb := zTb_of (tb_3 _ (List.mem_of_getElem? (i := 150) rfl)) rfl
abbrev mX0_spread : zM := (yX0_spread, cX0_spread, 6, (some .long))
theorem oX0_spread : zOk mX0_spread 2 := ⟨zTb_of (tb_3 _ (List.mem_of_getElem? (i := 204) rfl)) rfl, zTb_of (tb_1 _ (List.mem_of_getElem? (i := 2) rfl)) rfl, by decide +kernel, by decide⟩
theorem sX0_spread : Cond.static yX0_spread ∈ zTb := zTb_of (tb_3 _ (List.mem_of_getElem? (i := 203) rfl)) rfl
abbrev mX1_init : zM := (yX1_init, cX1_init, 2, none)
theorem oX1_init : zOk mX1_init 0 := ⟨zTb_of (tb_1 _ (List.mem_of_getElem? (i := 161) rfl)) rfl, zTb_of (tb_1 _ (List.mem_of_getElem? (i := 6) rfl)) rfl, by decide +kernel, by decide⟩
theorem iX1_init : Cond.instanceMethod yX1_init ∈ zTb := zTb_of (tb_1 _ (List.mem_of_getElem? (i := 160) rfl)) rfl
abbrev mX1_tryCommand : zM := (yX1_tryCommand, cX1_tryCommand, 4, (some .boolean))
theorem oX1_tryCommand : zOk mX1_tryCommand 3 := ⟨zTb_of (tb_3 _ (List.mem_of_getElem? (i := 72) rfl)) rfl, zTb_of (tb_1 _ (List.mem_of_getElem? (i := 6) rfl)) rfl, by decide +kernel, by decide⟩
theorem iX1_tryCommand : Cond.instanceMethod yX1_tryCommand ∈ zTb := zTb_of (tb_3 _ (List.mem_of_getElem? (i := 71) rfl)) rfl
theorem eX1_tryCommand : Cond.selects yX1_tryCommand.cls yX1_tryCommand yX1_tryCommand ∈ zTb := zTb_of (List.mem_append_left _ (List.mem_map.mpr ⟨_, List.mem_of_getElem? (i := 16) rfl, rfl⟩)) rfl
abbrev mX1_bringsAll : zM := (yX1_bringsAll, cX1_bringsAll, 5, (some .boolean))
theorem oX1_bringsAll : zOk mX1_bringsAll 4 := ⟨zTb_of (tb_3 _ (List.mem_of_getElem? (i := 64) rfl)) rfl, zTb_of (tb_1 _ (List.mem_of_getElem? (i := 6) rfl)) rfl, by decide +kernel, by decide⟩
theorem sX1_bringsAll : Cond.static yX1_bringsAll ∈ zTb := zTb_of (tb_3 _ (List.mem_of_getElem? (i := 63) rfl)) rfl
abbrev mX1_seekMost : zM := (yX1_seekMost, cX1_seekMost, 5, none)
theorem oX1_seekMost : zOk mX1_seekMost 4 := ⟨zTb_of (tb_3 _ (List.mem_of_getElem? (i := 92) rfl)) rfl, zTb_of (tb_1 _ (List.mem_of_getElem? (i := 6) rfl)) rfl, by decide +kernel, by decide⟩
theorem sX1_seekMost : Cond.static yX1_seekMost ∈ zTb := zTb_of (tb_3 _ (List.mem_of_getElem? (i := 91) rfl)) rfl
abbrev mJ7_fill_53178 : zM := (yJ7_fill_53178, cJ7_fill_53178, 4, none)
theorem oJ7_fill_53178 : zOk mJ7_fill_53178 2 := ⟨zTb_of (tb_3 _ (List.mem_of_getElem? (i := 225) rfl)) rfl, zTb_of (tb_1 _ (List.mem_of_getElem? (i := 8) rfl)) rfl, by decide +kernel, by decide⟩
theorem sJ7_fill_53178 : Cond.static yJ7_fill_53178 ∈ zTb := zTb_of (tb_3 _ (List.mem_of_getElem? (i := 224) rfl)) rfl
abbrev mX1_addRowsFrom : zM := (yX1_addRowsFrom, cX1_addRowsFrom, 5, none)
theorem oX1_addRowsFrom : zOk mX1_addRowsFrom 2 := ⟨zTb_of (tb_3 _ (List.mem_of_getElem? (i := 229) rfl)) rfl, zTb_of (tb_1 _ (List.mem_of_getElem? (i := 6) rfl)) rfl, by decide +kernel, by decide⟩
theorem iX1_addRowsFrom : Cond.instanceMethod yX1_addRowsFrom ∈ zTb := zTb_of (tb_3 _ (List.mem_of_getElem? (i := 228) rfl)) rfl
theorem eX1_addRowsFrom : Cond.selects yX1_addRowsFrom.cls yX1_addRowsFrom yX1_addRowsFrom ∈ zTb := zTb_of (List.mem_append_left _ (List.mem_map.mpr ⟨_, List.mem_of_getElem? (i := 21) rfl, rfl⟩)) rfl
abbrev mX1_countRows : zM := (yX1_countRows, cX1_countRows, 5, (some .int))
theorem oX1_countRows : zOk mX1_countRows 2 := ⟨zTb_of (tb_3 _ (List.mem_of_getElem? (i := 222) rfl)) rfl, zTb_of (tb_1 _ (List.mem_of_getElem? (i := 6) rfl)) rfl, by decide +kernel, by decide⟩
theorem iX1_countRows : Cond.instanceMethod yX1_countRows ∈ zTb := zTb_of (tb_3 _ (List.mem_of_getElem? (i := 220) rfl)) rfl
theorem eX1_countRows : Cond.selects yX1_countRows.cls yX1_countRows yX1_countRows ∈ zTb := zTb_of (tb_3 _ (List.mem_of_getElem? (i := 221) rfl)) rfl
abbrev mX2_init : zM := (yX2_init, cX2_init, 1, none)
theorem oX2_init : zOk mX2_init 0 := ⟨zTb_of (tb_1 _ (List.mem_of_getElem? (i := 139) rfl)) rfl, zTb_of (tb_1 _ (List.mem_of_getElem? (i := 5) rfl)) rfl, by decide +kernel, by decide⟩
theorem iX2_init : Cond.instanceMethod yX2_init ∈ zTb := zTb_of (tb_1 _ (List.mem_of_getElem? (i := 138) rfl)) rfl
abbrev mX2_hasEwe : zM := (yX2_hasEwe, cX2_hasEwe, 1, (some .boolean))
theorem oX2_hasEwe : zOk mX2_hasEwe 0 := ⟨zTb_of (tb_2 _ (List.mem_of_getElem? (i := 3) rfl)) rfl, zTb_of (tb_1 _ (List.mem_of_getElem? (i := 5) rfl)) rfl, by decide +kernel, by decide⟩
theorem iX2_hasEwe : Cond.instanceMethod yX2_hasEwe ∈ zTb := zTb_of (tb_2 _ (List.mem_of_getElem? (i := 1) rfl)) rfl
theorem eX2_hasEwe : Cond.selects yX2_hasEwe.cls yX2_hasEwe yX2_hasEwe ∈ zTb := zTb_of (tb_2 _ (List.mem_of_getElem? (i := 2) rfl)) rfl
abbrev mX2_hasRow : zM := (yX2_hasRow, cX2_hasRow, 1, (some .boolean))
theorem oX2_hasRow : zOk mX2_hasRow 0 := ⟨zTb_of (tb_2 _ (List.mem_of_getElem? (i := 7) rfl)) rfl, zTb_of (tb_1 _ (List.mem_of_getElem? (i := 5) rfl)) rfl, by decide +kernel, by decide⟩
theorem iX2_hasRow : Cond.instanceMethod yX2_hasRow ∈ zTb := zTb_of (tb_2 _ (List.mem_of_getElem? (i := 5) rfl)) rfl
theorem eX2_hasRow : Cond.selects yX2_hasRow.cls yX2_hasRow yX2_hasRow ∈ zTb := zTb_of (tb_2 _ (List.mem_of_getElem? (i := 6) rfl)) rfl
abbrev mJ7_fill_d0a16 : zM := (yJ7_fill_d0a16, cJ7_fill_d0a16, 5, none)
theorem oJ7_fill_d0a16 : zOk mJ7_fill_d0a16 2 := ⟨zTb_of (tb_1 _ (List.mem_of_getElem? (i := 231) rfl)) rfl, zTb_of (tb_1 _ (List.mem_of_getElem? (i := 8) rfl)) rfl, by decide +kernel, by decide⟩
theorem sJ7_fill_d0a16 : Cond.static yJ7_fill_d0a16 ∈ zTb := zTb_of (tb_1 _ (List.mem_of_getElem? (i := 230) rfl)) rfl
abbrev mX2_takeRow : zM := (yX2_takeRow, cX2_takeRow, 3, none)
theorem oX2_takeRow : zOk mX2_takeRow 2 := ⟨zTb_of (tb_1 _ (List.mem_of_getElem? (i := 228) rfl)) rfl, zTb_of (tb_1 _ (List.mem_of_getElem? (i := 5) rfl)) rfl, by decide +kernel, by decide⟩
theorem iX2_takeRow : Cond.instanceMethod yX2_takeRow ∈ zTb := zTb_of (tb_1 _ (List.mem_of_getElem? (i := 226) rfl)) rfl
theorem eX2_takeRow : Cond.selects yX2_takeRow.cls yX2_takeRow yX2_takeRow ∈ zTb := zTb_of (tb_1 _ (List.mem_of_getElem? (i := 227) rfl)) rfl
abbrev mX2_hasPart : zM := (yX2_hasPart, cX2_hasPart, 3, (some .boolean))
theorem oX2_hasPart : zOk mX2_hasPart 2 := ⟨zTb_of (tb_2 _ (List.mem_of_getElem? (i := 18) rfl)) rfl, zTb_of (tb_1 _ (List.mem_of_getElem? (i := 5) rfl)) rfl, by decide +kernel, by decide⟩
theorem iX2_hasPart : Cond.instanceMethod yX2_hasPart ∈ zTb := zTb_of (tb_2 _ (List.mem_of_getElem? (i := 16) rfl)) rfl
theorem eX2_hasPart : Cond.selects yX2_hasPart.cls yX2_hasPart yX2_hasPart ∈ zTb := zTb_of (tb_2 _ (List.mem_of_getElem? (i := 17) rfl)) rfl
abbrev mX4_init : zM := (yX4_init, cX4_init, 1, none)
theorem oX4_init : zOk mX4_init 0 := ⟨zTb_of (tb_1 _ (List.mem_of_getElem? (i := 108) rfl)) rfl, zTb_of (tb_1 _ (List.mem_of_getElem? (i := 4) rfl)) rfl, by decide +kernel, by decide⟩
theorem iX4_init : Cond.instanceMethod yX4_init ∈ zTb := zTb_of (tb_1 _ (List.mem_of_getElem? (i := 107) rfl)) rfl
abbrev mX4_byteAt : zM := (yX4_byteAt, cX4_byteAt, 2, (some .int))
theorem oX4_byteAt : zOk mX4_byteAt 1 := ⟨zTb_of (tb_2 _ (List.mem_of_getElem? (i := 179) rfl)) rfl, zTb_of (tb_1 _ (List.mem_of_getElem? (i := 4) rfl)) rfl, by decide +kernel, by decide⟩
theorem iX4_byteAt : Cond.instanceMethod yX4_byteAt ∈ zTb := zTb_of (tb_2 _ (List.mem_of_getElem? (i := 178) rfl)) rfl
theorem eX4_byteAt : Cond.selects yX4_byteAt.cls yX4_byteAt yX4_byteAt ∈ zTb := zTb_of (List.mem_append_left _ (List.mem_map.mpr ⟨_, List.mem_of_getElem? (i := 5) rfl, rfl⟩)) rfl
abbrev mX4_tokenOf : zM := (yX4_tokenOf, cX4_tokenOf, 1, (some .int))
theorem oX4_tokenOf : zOk mX4_tokenOf 1 := ⟨zTb_of (tb_2 _ (List.mem_of_getElem? (i := 182) rfl)) rfl, zTb_of (tb_1 _ (List.mem_of_getElem? (i := 4) rfl)) rfl, by decide +kernel, by decide⟩
theorem sX4_tokenOf : Cond.static yX4_tokenOf ∈ zTb := zTb_of (tb_2 _ (List.mem_of_getElem? (i := 181) rfl)) rfl
abbrev mX4_nextToken : zM := (yX4_nextToken, cX4_nextToken, 1, none)
theorem oX4_nextToken : zOk mX4_nextToken 0 := ⟨zTb_of (tb_2 _ (List.mem_of_getElem? (i := 175) rfl)) rfl, zTb_of (tb_1 _ (List.mem_of_getElem? (i := 4) rfl)) rfl, by decide +kernel, by decide⟩
theorem iX4_nextToken : Cond.instanceMethod yX4_nextToken ∈ zTb := zTb_of (tb_2 _ (List.mem_of_getElem? (i := 174) rfl)) rfl
theorem eX4_nextToken : Cond.selects yX4_nextToken.cls yX4_nextToken yX4_nextToken ∈ zTb := zTb_of (List.mem_append_left _ (List.mem_map.mpr ⟨_, List.mem_of_getElem? (i := 4) rfl, rfl⟩)) rfl
abbrev mJ0_coder_7d493 : zM := (yJ0_coder_7d493, cJ0_coder_7d493, 1, (some .byte))
theorem oJ0_coder_7d493 : zOk mJ0_coder_7d493 0 := ⟨zTb_of (tb_2 _ (List.mem_of_getElem? (i := 199) rfl)) rfl, zTb_of (tb_1 _ (List.mem_of_getElem? (i := 11) rfl)) rfl, by decide +kernel, by decide⟩
theorem iJ0_coder_7d493 : Cond.instanceMethod yJ0_coder_7d493 ∈ zTb := zTb_of (tb_2 _ (List.mem_of_getElem? (i := 197) rfl)) rfl
theorem eJ0_coder_7d493 : Cond.selects yJ0_coder_7d493.cls yJ0_coder_7d493 yJ0_coder_7d493 ∈ zTb := zTb_of (tb_2 _ (List.mem_of_getElem? (i := 198) rfl)) rfl
abbrev mJ0_length_8abf5 : zM := (yJ0_length_8abf5, cJ0_length_8abf5, 1, (some .int))
theorem oJ0_length_8abf5 : zOk mJ0_length_8abf5 0 := ⟨zTb_of (tb_2 _ (List.mem_of_getElem? (i := 195) rfl)) rfl, zTb_of (tb_1 _ (List.mem_of_getElem? (i := 11) rfl)) rfl, by decide +kernel, by decide⟩
theorem iJ0_length_8abf5 : Cond.instanceMethod yJ0_length_8abf5 ∈ zTb := zTb_of (tb_2 _ (List.mem_of_getElem? (i := 193) rfl)) rfl
theorem eJ0_length_8abf5 : Cond.selects yJ0_length_8abf5.cls yJ0_length_8abf5 yJ0_length_8abf5 ∈ zTb := zTb_of (tb_2 _ (List.mem_of_getElem? (i := 194) rfl)) rfl
abbrev mJ0_isLatin1_aae02 : zM := (yJ0_isLatin1_aae02, cJ0_isLatin1_aae02, 1, (some .boolean))
theorem oJ0_isLatin1_aae02 : zOk mJ0_isLatin1_aae02 0 := ⟨zTb_of (tb_2 _ (List.mem_of_getElem? (i := 209) rfl)) rfl, zTb_of (tb_1 _ (List.mem_of_getElem? (i := 11) rfl)) rfl, by decide +kernel, by decide⟩
theorem iJ0_isLatin1_aae02 : Cond.instanceMethod yJ0_isLatin1_aae02 ∈ zTb := zTb_of (tb_2 _ (List.mem_of_getElem? (i := 207) rfl)) rfl
theorem eJ0_isLatin1_aae02 : Cond.selects yJ0_isLatin1_aae02.cls yJ0_isLatin1_aae02 yJ0_isLatin1_aae02 ∈ zTb := zTb_of (tb_2 _ (List.mem_of_getElem? (i := 208) rfl)) rfl
abbrev mJ3_checkIndex_8e157 : zM := (yJ3_checkIndex_8e157, cJ3_checkIndex_8e157, 3, (some .int))
theorem oJ3_checkIndex_8e157 : zOk mJ3_checkIndex_8e157 3 := ⟨zTb_of (tb_2 _ (List.mem_of_getElem? (i := 220) rfl)) rfl, zTb_of (tb_1 _ (List.mem_of_getElem? (i := 13) rfl)) rfl, by decide +kernel, by decide⟩
theorem sJ3_checkIndex_8e157 : Cond.static yJ3_checkIndex_8e157 ∈ zTb := zTb_of (tb_2 _ (List.mem_of_getElem? (i := 219) rfl)) rfl
abbrev mJ0_checkIndex_df160 : zM := (yJ0_checkIndex_df160, cJ0_checkIndex_df160, 2, none)
theorem oJ0_checkIndex_df160 : zOk mJ0_checkIndex_df160 2 := ⟨zTb_of (tb_2 _ (List.mem_of_getElem? (i := 215) rfl)) rfl, zTb_of (tb_1 _ (List.mem_of_getElem? (i := 11) rfl)) rfl, by decide +kernel, by decide⟩
theorem sJ0_checkIndex_df160 : Cond.static yJ0_checkIndex_df160 ∈ zTb := zTb_of (tb_2 _ (List.mem_of_getElem? (i := 214) rfl)) rfl
abbrev mJ1_charAt_3b067 : zM := (yJ1_charAt_3b067, cJ1_charAt_3b067, 2, (some .char))
theorem oJ1_charAt_3b067 : zOk mJ1_charAt_3b067 2 := ⟨zTb_of (tb_2 _ (List.mem_of_getElem? (i := 212) rfl)) rfl, zTb_of (tb_1 _ (List.mem_of_getElem? (i := 12) rfl)) rfl, by decide +kernel, by decide⟩
theorem sJ1_charAt_3b067 : Cond.static yJ1_charAt_3b067 ∈ zTb := zTb_of (tb_2 _ (List.mem_of_getElem? (i := 211) rfl)) rfl
abbrev mJ2_length_9d52b : zM := (yJ2_length_9d52b, cJ2_length_9d52b, 1, (some .int))
theorem oJ2_length_9d52b : zOk mJ2_length_9d52b 1 := ⟨zTb_of (tb_2 _ (List.mem_of_getElem? (i := 229) rfl)) rfl, zTb_of (tb_1 _ (List.mem_of_getElem? (i := 14) rfl)) rfl, by decide +kernel, by decide⟩
theorem sJ2_length_9d52b : Cond.static yJ2_length_9d52b ∈ zTb := zTb_of (tb_2 _ (List.mem_of_getElem? (i := 228) rfl)) rfl
abbrev mJ2_checkIndex_2214a : zM := (yJ2_checkIndex_2214a, cJ2_checkIndex_2214a, 2, none)
theorem oJ2_checkIndex_2214a : zOk mJ2_checkIndex_2214a 2 := ⟨zTb_of (tb_2 _ (List.mem_of_getElem? (i := 226) rfl)) rfl, zTb_of (tb_1 _ (List.mem_of_getElem? (i := 14) rfl)) rfl, by decide +kernel, by decide⟩
theorem sJ2_checkIndex_2214a : Cond.static yJ2_checkIndex_2214a ∈ zTb := zTb_of (tb_2 _ (List.mem_of_getElem? (i := 225) rfl)) rfl
abbrev mJ2_getChar_3b067 : zM := (yJ2_getChar_3b067, cJ2_getChar_3b067, 2, (some .char))
theorem oJ2_getChar_3b067 : zOk mJ2_getChar_3b067 2 := ⟨zTb_of (tb_2 _ (List.mem_of_getElem? (i := 233) rfl)) rfl, zTb_of (tb_1 _ (List.mem_of_getElem? (i := 14) rfl)) rfl, by decide +kernel, by decide⟩
theorem sJ2_getChar_3b067 : Cond.static yJ2_getChar_3b067 ∈ zTb := zTb_of (tb_2 _ (List.mem_of_getElem? (i := 232) rfl)) rfl
abbrev mJ2_charAt_3b067 : zM := (yJ2_charAt_3b067, cJ2_charAt_3b067, 2, (some .char))
theorem oJ2_charAt_3b067 : zOk mJ2_charAt_3b067 2 := ⟨zTb_of (tb_2 _ (List.mem_of_getElem? (i := 223) rfl)) rfl, zTb_of (tb_1 _ (List.mem_of_getElem? (i := 14) rfl)) rfl, by decide +kernel, by decide⟩
theorem sJ2_charAt_3b067 : Cond.static yJ2_charAt_3b067 ∈ zTb := zTb_of (tb_2 _ (List.mem_of_getElem? (i := 222) rfl)) rfl
abbrev mJ0_charAt_5068e : zM := (yJ0_charAt_5068e, cJ0_charAt_5068e, 2, (some .char))
theorem oJ0_charAt_5068e : zOk mJ0_charAt_5068e 1 := ⟨zTb_of (tb_2 _ (List.mem_of_getElem? (i := 205) rfl)) rfl, zTb_of (tb_1 _ (List.mem_of_getElem? (i := 11) rfl)) rfl, by decide +kernel, by decide⟩
theorem iJ0_charAt_5068e : Cond.instanceMethod yJ0_charAt_5068e ∈ zTb := zTb_of (tb_2 _ (List.mem_of_getElem? (i := 203) rfl)) rfl
theorem eJ0_charAt_5068e : Cond.selects yJ0_charAt_5068e.cls yJ0_charAt_5068e yJ0_charAt_5068e ∈ zTb := zTb_of (tb_2 _ (List.mem_of_getElem? (i := 204) rfl)) rfl
abbrev mX4_isWord : zM := (yX4_isWord, cX4_isWord, 3, (some .boolean))
theorem oX4_isWord : zOk mX4_isWord 1 := ⟨zTb_of (tb_2 _ (List.mem_of_getElem? (i := 191) rfl)) rfl, zTb_of (tb_1 _ (List.mem_of_getElem? (i := 4) rfl)) rfl, by decide +kernel, by decide⟩
theorem iX4_isWord : Cond.instanceMethod yX4_isWord ∈ zTb := zTb_of (tb_2 _ (List.mem_of_getElem? (i := 190) rfl)) rfl
theorem eX4_isWord : Cond.selects yX4_isWord.cls yX4_isWord yX4_isWord ∈ zTb := zTb_of (List.mem_append_left _ (List.mem_map.mpr ⟨_, List.mem_of_getElem? (i := 7) rfl, rfl⟩)) rfl
abbrev mX4_nextNumber : zM := (yX4_nextNumber, cX4_nextNumber, 3, (some .int))
theorem oX4_nextNumber : zOk mX4_nextNumber 0 := ⟨zTb_of (tb_3 _ (List.mem_of_getElem? (i := 7) rfl)) rfl, zTb_of (tb_1 _ (List.mem_of_getElem? (i := 4) rfl)) rfl, by decide +kernel, by decide⟩
theorem iX4_nextNumber : Cond.instanceMethod yX4_nextNumber ∈ zTb := zTb_of (tb_3 _ (List.mem_of_getElem? (i := 6) rfl)) rfl
theorem eX4_nextNumber : Cond.selects yX4_nextNumber.cls yX4_nextNumber yX4_nextNumber ∈ zTb := zTb_of (List.mem_append_left _ (List.mem_map.mpr ⟨_, List.mem_of_getElem? (i := 9) rfl, rfl⟩)) rfl
abbrev mX4_readSide : zM := (yX4_readSide, cX4_readSide, 2, (some .boolean))
theorem oX4_readSide : zOk mX4_readSide 0 := ⟨zTb_of (tb_3 _ (List.mem_of_getElem? (i := 3) rfl)) rfl, zTb_of (tb_1 _ (List.mem_of_getElem? (i := 4) rfl)) rfl, by decide +kernel, by decide⟩
theorem iX4_readSide : Cond.instanceMethod yX4_readSide ∈ zTb := zTb_of (tb_3 _ (List.mem_of_getElem? (i := 2) rfl)) rfl
theorem eX4_readSide : Cond.selects yX4_readSide.cls yX4_readSide yX4_readSide ∈ zTb := zTb_of (List.mem_append_left _ (List.mem_map.mpr ⟨_, List.mem_of_getElem? (i := 8) rfl, rfl⟩)) rfl
abbrev mX4_readWall : zM := (yX4_readWall, cX4_readWall, 2, (some .boolean))
theorem oX4_readWall : zOk mX4_readWall 0 := ⟨zTb_of (tb_3 _ (List.mem_of_getElem? (i := 12) rfl)) rfl, zTb_of (tb_1 _ (List.mem_of_getElem? (i := 4) rfl)) rfl, by decide +kernel, by decide⟩
theorem iX4_readWall : Cond.instanceMethod yX4_readWall ∈ zTb := zTb_of (tb_3 _ (List.mem_of_getElem? (i := 11) rfl)) rfl
theorem eX4_readWall : Cond.selects yX4_readWall.cls yX4_readWall yX4_readWall ∈ zTb := zTb_of (List.mem_append_left _ (List.mem_map.mpr ⟨_, List.mem_of_getElem? (i := 10) rfl, rfl⟩)) rfl
abbrev mX4_readGap : zM := (yX4_readGap, cX4_readGap, 2, (some .boolean))
theorem oX4_readGap : zOk mX4_readGap 0 := ⟨zTb_of (tb_3 _ (List.mem_of_getElem? (i := 19) rfl)) rfl, zTb_of (tb_1 _ (List.mem_of_getElem? (i := 4) rfl)) rfl, by decide +kernel, by decide⟩
theorem iX4_readGap : Cond.instanceMethod yX4_readGap ∈ zTb := zTb_of (tb_3 _ (List.mem_of_getElem? (i := 18) rfl)) rfl
theorem eX4_readGap : Cond.selects yX4_readGap.cls yX4_readGap yX4_readGap ∈ zTb := zTb_of (List.mem_append_left _ (List.mem_map.mpr ⟨_, List.mem_of_getElem? (i := 11) rfl, rfl⟩)) rfl
abbrev mX4_readPen : zM := (yX4_readPen, cX4_readPen, 2, (some .boolean))
theorem oX4_readPen : zOk mX4_readPen 0 := ⟨zTb_of (tb_3 _ (List.mem_of_getElem? (i := 25) rfl)) rfl, zTb_of (tb_1 _ (List.mem_of_getElem? (i := 4) rfl)) rfl, by decide +kernel, by decide⟩
theorem iX4_readPen : Cond.instanceMethod yX4_readPen ∈ zTb := zTb_of (tb_3 _ (List.mem_of_getElem? (i := 24) rfl)) rfl
theorem eX4_readPen : Cond.selects yX4_readPen.cls yX4_readPen yX4_readPen ∈ zTb := zTb_of (List.mem_append_left _ (List.mem_map.mpr ⟨_, List.mem_of_getElem? (i := 12) rfl, rfl⟩)) rfl
abbrev mX4_readDog : zM := (yX4_readDog, cX4_readDog, 2, (some .boolean))
theorem oX4_readDog : zOk mX4_readDog 0 := ⟨zTb_of (tb_3 _ (List.mem_of_getElem? (i := 31) rfl)) rfl, zTb_of (tb_1 _ (List.mem_of_getElem? (i := 4) rfl)) rfl, by decide +kernel, by decide⟩
theorem iX4_readDog : Cond.instanceMethod yX4_readDog ∈ zTb := zTb_of (tb_3 _ (List.mem_of_getElem? (i := 30) rfl)) rfl
theorem eX4_readDog : Cond.selects yX4_readDog.cls yX4_readDog yX4_readDog ∈ zTb := zTb_of (List.mem_append_left _ (List.mem_map.mpr ⟨_, List.mem_of_getElem? (i := 13) rfl, rfl⟩)) rfl
abbrev mX5_isKind : zM := (yX5_isKind, cX5_isKind, 1, (some .boolean))
theorem oX5_isKind : zOk mX5_isKind 1 := ⟨zTb_of (tb_2 _ (List.mem_of_getElem? (i := 44) rfl)) rfl, zTb_of (tb_1 _ (List.mem_of_getElem? (i := 1) rfl)) rfl, by decide +kernel, by decide⟩
theorem sX5_isKind : Cond.static yX5_isKind ∈ zTb := zTb_of (tb_2 _ (List.mem_of_getElem? (i := 43) rfl)) rfl
abbrev mX4_readEwe : zM := (yX4_readEwe, cX4_readEwe, 4, (some .boolean))
theorem oX4_readEwe : zOk mX4_readEwe 0 := ⟨zTb_of (tb_3 _ (List.mem_of_getElem? (i := 37) rfl)) rfl, zTb_of (tb_1 _ (List.mem_of_getElem? (i := 4) rfl)) rfl, by decide +kernel, by decide⟩
theorem iX4_readEwe : Cond.instanceMethod yX4_readEwe ∈ zTb := zTb_of (tb_3 _ (List.mem_of_getElem? (i := 36) rfl)) rfl
theorem eX4_readEwe : Cond.selects yX4_readEwe.cls yX4_readEwe yX4_readEwe ∈ zTb := zTb_of (List.mem_append_left _ (List.mem_map.mpr ⟨_, List.mem_of_getElem? (i := 14) rfl, rfl⟩)) rfl
abbrev mX4_readWind : zM := (yX4_readWind, cX4_readWind, 2, (some .boolean))
theorem oX4_readWind : zOk mX4_readWind 0 := ⟨zTb_of (tb_3 _ (List.mem_of_getElem? (i := 45) rfl)) rfl, zTb_of (tb_1 _ (List.mem_of_getElem? (i := 4) rfl)) rfl, by decide +kernel, by decide⟩
theorem iX4_readWind : Cond.instanceMethod yX4_readWind ∈ zTb := zTb_of (tb_3 _ (List.mem_of_getElem? (i := 44) rfl)) rfl
theorem eX4_readWind : Cond.selects yX4_readWind.cls yX4_readWind yX4_readWind ∈ zTb := zTb_of (List.mem_append_left _ (List.mem_map.mpr ⟨_, List.mem_of_getElem? (i := 15) rfl, rfl⟩)) rfl
abbrev mX4_readStatement : zM := (yX4_readStatement, cX4_readStatement, 1, (some .boolean))
theorem oX4_readStatement : zOk mX4_readStatement 0 := ⟨zTb_of (tb_2 _ (List.mem_of_getElem? (i := 186) rfl)) rfl, zTb_of (tb_1 _ (List.mem_of_getElem? (i := 4) rfl)) rfl, by decide +kernel, by decide⟩
theorem iX4_readStatement : Cond.instanceMethod yX4_readStatement ∈ zTb := zTb_of (tb_2 _ (List.mem_of_getElem? (i := 185) rfl)) rfl
theorem eX4_readStatement : Cond.selects yX4_readStatement.cls yX4_readStatement yX4_readStatement ∈ zTb := zTb_of (List.mem_append_left _ (List.mem_map.mpr ⟨_, List.mem_of_getElem? (i := 6) rfl, rfl⟩)) rfl
abbrev mX4_readOnto : zM := (yX4_readOnto, cX4_readOnto, 3, (some .int))
theorem oX4_readOnto : zOk mX4_readOnto 1 := ⟨zTb_of (tb_2 _ (List.mem_of_getElem? (i := 161) rfl)) rfl, zTb_of (tb_1 _ (List.mem_of_getElem? (i := 4) rfl)) rfl, by decide +kernel, by decide⟩
theorem iX4_readOnto : Cond.instanceMethod yX4_readOnto ∈ zTb := zTb_of (tb_2 _ (List.mem_of_getElem? (i := 159) rfl)) rfl
theorem eX4_readOnto : Cond.selects yX4_readOnto.cls yX4_readOnto yX4_readOnto ∈ zTb := zTb_of (tb_2 _ (List.mem_of_getElem? (i := 160) rfl)) rfl
abbrev mX5_init : zM := (yX5_init, cX5_init, 2, none)
theorem oX5_init : zOk mX5_init 0 := ⟨zTb_of (tb_1 _ (List.mem_of_getElem? (i := 21) rfl)) rfl, zTb_of (tb_1 _ (List.mem_of_getElem? (i := 1) rfl)) rfl, by decide +kernel, by decide⟩
theorem iX5_init : Cond.instanceMethod yX5_init ∈ zTb := zTb_of (tb_1 _ (List.mem_of_getElem? (i := 20) rfl)) rfl
abbrev mX5_isShelf : zM := (yX5_isShelf, cX5_isShelf, 1, (some .boolean))
theorem oX5_isShelf : zOk mX5_isShelf 1 := ⟨zTb_of (tb_1 _ (List.mem_of_getElem? (i := 220) rfl)) rfl, zTb_of (tb_1 _ (List.mem_of_getElem? (i := 1) rfl)) rfl, by decide +kernel, by decide⟩
theorem sX5_isShelf : Cond.static yX5_isShelf ∈ zTb := zTb_of (tb_1 _ (List.mem_of_getElem? (i := 219) rfl)) rfl
abbrev mX5_refuse : zM := (yX5_refuse, cX5_refuse, 3, (some .int))
theorem oX5_refuse : zOk mX5_refuse 1 := ⟨zTb_of (tb_1 _ (List.mem_of_getElem? (i := 224) rfl)) rfl, zTb_of (tb_1 _ (List.mem_of_getElem? (i := 1) rfl)) rfl, by decide +kernel, by decide⟩
theorem iX5_refuse : Cond.instanceMethod yX5_refuse ∈ zTb := zTb_of (tb_1 _ (List.mem_of_getElem? (i := 223) rfl)) rfl
theorem eX5_refuse : Cond.selects yX5_refuse.cls yX5_refuse yX5_refuse ∈ zTb := zTb_of (List.mem_append_left _ (List.mem_map.mpr ⟨_, List.mem_of_getElem? (i := 0) rfl, rfl⟩)) rfl
abbrev mX5_row : zM := (yX5_row, cX5_row, 4, (some .int))
theorem oX5_row : zOk mX5_row 3 := ⟨zTb_of (tb_1 _ (List.mem_of_getElem? (i := 217) rfl)) rfl, zTb_of (tb_1 _ (List.mem_of_getElem? (i := 1) rfl)) rfl, by decide +kernel, by decide⟩
theorem iX5_row : Cond.instanceMethod yX5_row ∈ zTb := zTb_of (tb_1 _ (List.mem_of_getElem? (i := 215) rfl)) rfl
theorem eX5_row : Cond.selects yX5_row.cls yX5_row yX5_row ∈ zTb := zTb_of (tb_1 _ (List.mem_of_getElem? (i := 216) rfl)) rfl
abbrev mX5_faultOfRow : zM := (yX5_faultOfRow, cX5_faultOfRow, 4, (some .int))
theorem oX5_faultOfRow : zOk mX5_faultOfRow 3 := ⟨zTb_of (tb_1 _ (List.mem_of_getElem? (i := 239) rfl)) rfl, zTb_of (tb_1 _ (List.mem_of_getElem? (i := 1) rfl)) rfl, by decide +kernel, by decide⟩
theorem iX5_faultOfRow : Cond.instanceMethod yX5_faultOfRow ∈ zTb := zTb_of (tb_1 _ (List.mem_of_getElem? (i := 238) rfl)) rfl
theorem eX5_faultOfRow : Cond.selects yX5_faultOfRow.cls yX5_faultOfRow yX5_faultOfRow ∈ zTb := zTb_of (List.mem_append_left _ (List.mem_map.mpr ⟨_, List.mem_of_getElem? (i := 1) rfl, rfl⟩)) rfl
abbrev mX5_cutTo : zM := (yX5_cutTo, cX5_cutTo, 3, (some .long))
theorem oX5_cutTo : zOk mX5_cutTo 2 := ⟨zTb_of (tb_2 _ (List.mem_of_getElem? (i := 10) rfl)) rfl, zTb_of (tb_1 _ (List.mem_of_getElem? (i := 1) rfl)) rfl, by decide +kernel, by decide⟩
theorem sX5_cutTo : Cond.static yX5_cutTo ∈ zTb := zTb_of (tb_2 _ (List.mem_of_getElem? (i := 9) rfl)) rfl
abbrev mX5_set : zM := (yX5_set, cX5_set, 6, (some .int))
theorem oX5_set : zOk mX5_set 3 := ⟨zTb_of (tb_1 _ (List.mem_of_getElem? (i := 235) rfl)) rfl, zTb_of (tb_1 _ (List.mem_of_getElem? (i := 1) rfl)) rfl, by decide +kernel, by decide⟩
theorem iX5_set : Cond.instanceMethod yX5_set ∈ zTb := zTb_of (tb_1 _ (List.mem_of_getElem? (i := 233) rfl)) rfl
theorem eX5_set : Cond.selects yX5_set.cls yX5_set yX5_set ∈ zTb := zTb_of (tb_1 _ (List.mem_of_getElem? (i := 234) rfl)) rfl
abbrev mX5_copy : zM := (yX5_copy, cX5_copy, 9, (some .int))
theorem oX5_copy : zOk mX5_copy 5 := ⟨zTb_of (tb_2 _ (List.mem_of_getElem? (i := 14) rfl)) rfl, zTb_of (tb_1 _ (List.mem_of_getElem? (i := 1) rfl)) rfl, by decide +kernel, by decide⟩
theorem iX5_copy : Cond.instanceMethod yX5_copy ∈ zTb := zTb_of (tb_2 _ (List.mem_of_getElem? (i := 12) rfl)) rfl
theorem eX5_copy : Cond.selects yX5_copy.cls yX5_copy yX5_copy ∈ zTb := zTb_of (tb_2 _ (List.mem_of_getElem? (i := 13) rfl)) rfl
abbrev mX5_element : zM := (yX5_element, cX5_element, 3, (some .long))
theorem oX5_element : zOk mX5_element 2 := ⟨zTb_of (tb_2 _ (List.mem_of_getElem? (i := 25) rfl)) rfl, zTb_of (tb_1 _ (List.mem_of_getElem? (i := 1) rfl)) rfl, by decide +kernel, by decide⟩
theorem iX5_element : Cond.instanceMethod yX5_element ∈ zTb := zTb_of (tb_2 _ (List.mem_of_getElem? (i := 23) rfl)) rfl
theorem eX5_element : Cond.selects yX5_element.cls yX5_element yX5_element ∈ zTb := zTb_of (tb_2 _ (List.mem_of_getElem? (i := 24) rfl)) rfl
abbrev mX5_holds : zM := (yX5_holds, cX5_holds, 2, (some .int))
theorem oX5_holds : zOk mX5_holds 1 := ⟨zTb_of (tb_2 _ (List.mem_of_getElem? (i := 29) rfl)) rfl, zTb_of (tb_1 _ (List.mem_of_getElem? (i := 1) rfl)) rfl, by decide +kernel, by decide⟩
theorem iX5_holds : Cond.instanceMethod yX5_holds ∈ zTb := zTb_of (tb_2 _ (List.mem_of_getElem? (i := 27) rfl)) rfl
theorem eX5_holds : Cond.selects yX5_holds.cls yX5_holds yX5_holds ∈ zTb := zTb_of (tb_2 _ (List.mem_of_getElem? (i := 28) rfl)) rfl
abbrev mX5_show : zM := (yX5_show, cX5_show, 3, (some .int))
theorem oX5_show : zOk mX5_show 2 := ⟨zTb_of (tb_2 _ (List.mem_of_getElem? (i := 33) rfl)) rfl, zTb_of (tb_1 _ (List.mem_of_getElem? (i := 1) rfl)) rfl, by decide +kernel, by decide⟩
theorem iX5_show : Cond.instanceMethod yX5_show ∈ zTb := zTb_of (tb_2 _ (List.mem_of_getElem? (i := 31) rfl)) rfl
theorem eX5_show : Cond.selects yX5_show.cls yX5_show yX5_show ∈ zTb := zTb_of (tb_2 _ (List.mem_of_getElem? (i := 32) rfl)) rfl
abbrev mX5_isUnder : zM := (yX5_isUnder, cX5_isUnder, 4, (some .boolean))
theorem oX5_isUnder : zOk mX5_isUnder 2 := ⟨zTb_of (tb_2 _ (List.mem_of_getElem? (i := 47) rfl)) rfl, zTb_of (tb_1 _ (List.mem_of_getElem? (i := 1) rfl)) rfl, by decide +kernel, by decide⟩
theorem sX5_isUnder : Cond.static yX5_isUnder ∈ zTb := zTb_of (tb_2 _ (List.mem_of_getElem? (i := 46) rfl)) rfl
abbrev mX5_says : zM := (yX5_says, cX5_says, 5, (some .int))
theorem oX5_says : zOk mX5_says 2 := ⟨zTb_of (tb_2 _ (List.mem_of_getElem? (i := 41) rfl)) rfl, zTb_of (tb_1 _ (List.mem_of_getElem? (i := 1) rfl)) rfl, by decide +kernel, by decide⟩
theorem iX5_says : Cond.instanceMethod yX5_says ∈ zTb := zTb_of (tb_2 _ (List.mem_of_getElem? (i := 39) rfl)) rfl
theorem eX5_says : Cond.selects yX5_says.cls yX5_says yX5_says ∈ zTb := zTb_of (tb_2 _ (List.mem_of_getElem? (i := 40) rfl)) rfl
abbrev mX5_side : zM := (yX5_side, cX5_side, 3, (some .int))
theorem oX5_side : zOk mX5_side 1 := ⟨zTb_of (tb_2 _ (List.mem_of_getElem? (i := 90) rfl)) rfl, zTb_of (tb_1 _ (List.mem_of_getElem? (i := 1) rfl)) rfl, by decide +kernel, by decide⟩
theorem iX5_side : Cond.instanceMethod yX5_side ∈ zTb := zTb_of (tb_2 _ (List.mem_of_getElem? (i := 88) rfl)) rfl
theorem eX5_side : Cond.selects yX5_side.cls yX5_side yX5_side ∈ zTb := zTb_of (tb_2 _ (List.mem_of_getElem? (i := 89) rfl)) rfl
abbrev mX5_wall : zM := (yX5_wall, cX5_wall, 4, (some .int))
theorem oX5_wall : zOk mX5_wall 2 := ⟨zTb_of (tb_2 _ (List.mem_of_getElem? (i := 94) rfl)) rfl, zTb_of (tb_1 _ (List.mem_of_getElem? (i := 1) rfl)) rfl, by decide +kernel, by decide⟩
theorem iX5_wall : Cond.instanceMethod yX5_wall ∈ zTb := zTb_of (tb_2 _ (List.mem_of_getElem? (i := 92) rfl)) rfl
theorem eX5_wall : Cond.selects yX5_wall.cls yX5_wall yX5_wall ∈ zTb := zTb_of (tb_2 _ (List.mem_of_getElem? (i := 93) rfl)) rfl
abbrev mX5_pen : zM := (yX5_pen, cX5_pen, 3, (some .int))
theorem oX5_pen : zOk mX5_pen 1 := ⟨zTb_of (tb_2 _ (List.mem_of_getElem? (i := 116) rfl)) rfl, zTb_of (tb_1 _ (List.mem_of_getElem? (i := 1) rfl)) rfl, by decide +kernel, by decide⟩
theorem iX5_pen : Cond.instanceMethod yX5_pen ∈ zTb := zTb_of (tb_2 _ (List.mem_of_getElem? (i := 114) rfl)) rfl
theorem eX5_pen : Cond.selects yX5_pen.cls yX5_pen yX5_pen ∈ zTb := zTb_of (tb_2 _ (List.mem_of_getElem? (i := 115) rfl)) rfl
abbrev mX5_dog : zM := (yX5_dog, cX5_dog, 3, (some .int))
theorem oX5_dog : zOk mX5_dog 1 := ⟨zTb_of (tb_2 _ (List.mem_of_getElem? (i := 124) rfl)) rfl, zTb_of (tb_1 _ (List.mem_of_getElem? (i := 1) rfl)) rfl, by decide +kernel, by decide⟩
theorem iX5_dog : Cond.instanceMethod yX5_dog ∈ zTb := zTb_of (tb_2 _ (List.mem_of_getElem? (i := 122) rfl)) rfl
theorem eX5_dog : Cond.selects yX5_dog.cls yX5_dog yX5_dog ∈ zTb := zTb_of (tb_2 _ (List.mem_of_getElem? (i := 123) rfl)) rfl
abbrev mX5_ewe : zM := (yX5_ewe, cX5_ewe, 4, (some .int))
theorem oX5_ewe : zOk mX5_ewe 3 := ⟨zTb_of (tb_2 _ (List.mem_of_getElem? (i := 132) rfl)) rfl, zTb_of (tb_1 _ (List.mem_of_getElem? (i := 1) rfl)) rfl, by decide +kernel, by decide⟩
theorem iX5_ewe : Cond.instanceMethod yX5_ewe ∈ zTb := zTb_of (tb_2 _ (List.mem_of_getElem? (i := 130) rfl)) rfl
theorem eX5_ewe : Cond.selects yX5_ewe.cls yX5_ewe yX5_ewe ∈ zTb := zTb_of (tb_2 _ (List.mem_of_getElem? (i := 131) rfl)) rfl
abbrev mX5_move : zM := (yX5_move, cX5_move, 4, (some .int))
theorem oX5_move : zOk mX5_move 2 := ⟨zTb_of (tb_2 _ (List.mem_of_getElem? (i := 141) rfl)) rfl, zTb_of (tb_1 _ (List.mem_of_getElem? (i := 1) rfl)) rfl, by decide +kernel, by decide⟩
theorem iX5_move : Cond.instanceMethod yX5_move ∈ zTb := zTb_of (tb_2 _ (List.mem_of_getElem? (i := 139) rfl)) rfl
theorem eX5_move : Cond.selects yX5_move.cls yX5_move yX5_move ∈ zTb := zTb_of (tb_2 _ (List.mem_of_getElem? (i := 140) rfl)) rfl
abbrev mX5_wind : zM := (yX5_wind, cX5_wind, 3, (some .int))
theorem oX5_wind : zOk mX5_wind 1 := ⟨zTb_of (tb_2 _ (List.mem_of_getElem? (i := 145) rfl)) rfl, zTb_of (tb_1 _ (List.mem_of_getElem? (i := 1) rfl)) rfl, by decide +kernel, by decide⟩
theorem iX5_wind : Cond.instanceMethod yX5_wind ∈ zTb := zTb_of (tb_2 _ (List.mem_of_getElem? (i := 143) rfl)) rfl
theorem eX5_wind : Cond.selects yX5_wind.cls yX5_wind yX5_wind ∈ zTb := zTb_of (tb_2 _ (List.mem_of_getElem? (i := 144) rfl)) rfl
abbrev mX5_feed : zM := (yX5_feed, cX5_feed, 2, (some .int))
theorem oX5_feed : zOk mX5_feed 1 := ⟨zTb_of (tb_2 _ (List.mem_of_getElem? (i := 149) rfl)) rfl, zTb_of (tb_1 _ (List.mem_of_getElem? (i := 1) rfl)) rfl, by decide +kernel, by decide⟩
theorem iX5_feed : Cond.instanceMethod yX5_feed ∈ zTb := zTb_of (tb_2 _ (List.mem_of_getElem? (i := 147) rfl)) rfl
theorem eX5_feed : Cond.selects yX5_feed.cls yX5_feed yX5_feed ∈ zTb := zTb_of (tb_2 _ (List.mem_of_getElem? (i := 148) rfl)) rfl
abbrev mX5_wipe : zM := (yX5_wipe, cX5_wipe, 2, (some .int))
theorem oX5_wipe : zOk mX5_wipe 0 := ⟨zTb_of (tb_2 _ (List.mem_of_getElem? (i := 153) rfl)) rfl, zTb_of (tb_1 _ (List.mem_of_getElem? (i := 1) rfl)) rfl, by decide +kernel, by decide⟩
theorem iX5_wipe : Cond.instanceMethod yX5_wipe ∈ zTb := zTb_of (tb_2 _ (List.mem_of_getElem? (i := 151) rfl)) rfl
theorem eX5_wipe : Cond.selects yX5_wipe.cls yX5_wipe yX5_wipe ∈ zTb := zTb_of (tb_2 _ (List.mem_of_getElem? (i := 152) rfl)) rfl
abbrev mX5_hill : zM := (yX5_hill, cX5_hill, 2, (some .int))
theorem oX5_hill : zOk mX5_hill 0 := ⟨zTb_of (tb_2 _ (List.mem_of_getElem? (i := 157) rfl)) rfl, zTb_of (tb_1 _ (List.mem_of_getElem? (i := 1) rfl)) rfl, by decide +kernel, by decide⟩
theorem iX5_hill : Cond.instanceMethod yX5_hill ∈ zTb := zTb_of (tb_2 _ (List.mem_of_getElem? (i := 155) rfl)) rfl
theorem eX5_hill : Cond.selects yX5_hill.cls yX5_hill yX5_hill ∈ zTb := zTb_of (tb_2 _ (List.mem_of_getElem? (i := 156) rfl)) rfl
abbrev mX5_eweOf : zM := (yX5_eweOf, cX5_eweOf, 4, (some .int))
theorem oX5_eweOf : zOk mX5_eweOf 2 := ⟨zTb_of (tb_3 _ (List.mem_of_getElem? (i := 51) rfl)) rfl, zTb_of (tb_1 _ (List.mem_of_getElem? (i := 1) rfl)) rfl, by decide +kernel, by decide⟩
theorem iX5_eweOf : Cond.instanceMethod yX5_eweOf ∈ zTb := zTb_of (tb_3 _ (List.mem_of_getElem? (i := 49) rfl)) rfl
theorem eX5_eweOf : Cond.selects yX5_eweOf.cls yX5_eweOf yX5_eweOf ∈ zTb := zTb_of (tb_3 _ (List.mem_of_getElem? (i := 50) rfl)) rfl
abbrev mX5_hasWall : zM := (yX5_hasWall, cX5_hasWall, 2, (some .int))
theorem oX5_hasWall : zOk mX5_hasWall 1 := ⟨zTb_of (tb_3 _ (List.mem_of_getElem? (i := 56) rfl)) rfl, zTb_of (tb_1 _ (List.mem_of_getElem? (i := 1) rfl)) rfl, by decide +kernel, by decide⟩
theorem iX5_hasWall : Cond.instanceMethod yX5_hasWall ∈ zTb := zTb_of (tb_3 _ (List.mem_of_getElem? (i := 54) rfl)) rfl
theorem eX5_hasWall : Cond.selects yX5_hasWall.cls yX5_hasWall yX5_hasWall ∈ zTb := zTb_of (tb_3 _ (List.mem_of_getElem? (i := 55) rfl)) rfl
abbrev mX5_fewest : zM := (yX5_fewest, cX5_fewest, 5, (some .int))
theorem oX5_fewest : zOk mX5_fewest 2 := ⟨zTb_of (tb_3 _ (List.mem_of_getElem? (i := 60) rfl)) rfl, zTb_of (tb_1 _ (List.mem_of_getElem? (i := 1) rfl)) rfl, by decide +kernel, by decide⟩
theorem iX5_fewest : Cond.instanceMethod yX5_fewest ∈ zTb := zTb_of (tb_3 _ (List.mem_of_getElem? (i := 58) rfl)) rfl
theorem eX5_fewest : Cond.selects yX5_fewest.cls yX5_fewest yX5_fewest ∈ zTb := zTb_of (tb_3 _ (List.mem_of_getElem? (i := 59) rfl)) rfl
abbrev mX5_most : zM := (yX5_most, cX5_most, 3, (some .int))
theorem oX5_most : zOk mX5_most 2 := ⟨zTb_of (tb_3 _ (List.mem_of_getElem? (i := 89) rfl)) rfl, zTb_of (tb_1 _ (List.mem_of_getElem? (i := 1) rfl)) rfl, by decide +kernel, by decide⟩
theorem iX5_most : Cond.instanceMethod yX5_most ∈ zTb := zTb_of (tb_3 _ (List.mem_of_getElem? (i := 87) rfl)) rfl
theorem eX5_most : Cond.selects yX5_most.cls yX5_most yX5_most ∈ zTb := zTb_of (tb_3 _ (List.mem_of_getElem? (i := 88) rfl)) rfl
abbrev mX5_stand : zM := (yX5_stand, cX5_stand, 5, (some .int))
theorem oX5_stand : zOk mX5_stand 0 := ⟨zTb_of (tb_3 _ (List.mem_of_getElem? (i := 103) rfl)) rfl, zTb_of (tb_1 _ (List.mem_of_getElem? (i := 1) rfl)) rfl, by decide +kernel, by decide⟩
theorem iX5_stand : Cond.instanceMethod yX5_stand ∈ zTb := zTb_of (tb_3 _ (List.mem_of_getElem? (i := 101) rfl)) rfl
theorem eX5_stand : Cond.selects yX5_stand.cls yX5_stand yX5_stand ∈ zTb := zTb_of (tb_3 _ (List.mem_of_getElem? (i := 102) rfl)) rfl
abbrev mX5_shy : zM := (yX5_shy, cX5_shy, 4, (some .int))
theorem oX5_shy : zOk mX5_shy 1 := ⟨zTb_of (tb_3 _ (List.mem_of_getElem? (i := 112) rfl)) rfl, zTb_of (tb_1 _ (List.mem_of_getElem? (i := 1) rfl)) rfl, by decide +kernel, by decide⟩
theorem iX5_shy : Cond.instanceMethod yX5_shy ∈ zTb := zTb_of (tb_3 _ (List.mem_of_getElem? (i := 110) rfl)) rfl
theorem eX5_shy : Cond.selects yX5_shy.cls yX5_shy yX5_shy ∈ zTb := zTb_of (tb_3 _ (List.mem_of_getElem? (i := 111) rfl)) rfl
abbrev mX5_isCommand : zM := (yX5_isCommand, cX5_isCommand, 2, (some .boolean))
theorem oX5_isCommand : zOk mX5_isCommand 1 := ⟨zTb_of (tb_3 _ (List.mem_of_getElem? (i := 130) rfl)) rfl, zTb_of (tb_1 _ (List.mem_of_getElem? (i := 1) rfl)) rfl, by decide +kernel, by decide⟩
theorem sX5_isCommand : Cond.static yX5_isCommand ∈ zTb := zTb_of (tb_3 _ (List.mem_of_getElem? (i := 129) rfl)) rfl
abbrev mX5_faultOfCommands : zM := (yX5_faultOfCommands, cX5_faultOfCommands, 6, (some .int))
theorem oX5_faultOfCommands : zOk mX5_faultOfCommands 3 := ⟨zTb_of (tb_3 _ (List.mem_of_getElem? (i := 127) rfl)) rfl, zTb_of (tb_1 _ (List.mem_of_getElem? (i := 1) rfl)) rfl, by decide +kernel, by decide⟩
theorem iX5_faultOfCommands : Cond.instanceMethod yX5_faultOfCommands ∈ zTb := zTb_of (tb_3 _ (List.mem_of_getElem? (i := 126) rfl)) rfl
theorem eX5_faultOfCommands : Cond.selects yX5_faultOfCommands.cls yX5_faultOfCommands yX5_faultOfCommands ∈ zTb := zTb_of (List.mem_append_left _ (List.mem_map.mpr ⟨_, List.mem_of_getElem? (i := 17) rfl, rfl⟩)) rfl
abbrev mX5_takeTold : zM := (yX5_takeTold, cX5_takeTold, 5, none)
theorem oX5_takeTold : zOk mX5_takeTold 3 := ⟨zTb_of (tb_3 _ (List.mem_of_getElem? (i := 135) rfl)) rfl, zTb_of (tb_1 _ (List.mem_of_getElem? (i := 1) rfl)) rfl, by decide +kernel, by decide⟩
theorem iX5_takeTold : Cond.instanceMethod yX5_takeTold ∈ zTb := zTb_of (tb_3 _ (List.mem_of_getElem? (i := 134) rfl)) rfl
theorem eX5_takeTold : Cond.selects yX5_takeTold.cls yX5_takeTold yX5_takeTold ∈ zTb := zTb_of (List.mem_append_left _ (List.mem_map.mpr ⟨_, List.mem_of_getElem? (i := 18) rfl, rfl⟩)) rfl
abbrev mX5_late : zM := (yX5_late, cX5_late, 6, (some .int))
theorem oX5_late : zOk mX5_late 3 := ⟨zTb_of (tb_3 _ (List.mem_of_getElem? (i := 123) rfl)) rfl, zTb_of (tb_1 _ (List.mem_of_getElem? (i := 1) rfl)) rfl, by decide +kernel, by decide⟩
theorem iX5_late : Cond.instanceMethod yX5_late ∈ zTb := zTb_of (tb_3 _ (List.mem_of_getElem? (i := 121) rfl)) rfl
theorem eX5_late : Cond.selects yX5_late.cls yX5_late yX5_late ∈ zTb := zTb_of (tb_3 _ (List.mem_of_getElem? (i := 122) rfl)) rfl
abbrev mX5_bare : zM := (yX5_bare, cX5_bare, 5, (some .int))
theorem oX5_bare : zOk mX5_bare 0 := ⟨zTb_of (tb_3 _ (List.mem_of_getElem? (i := 140) rfl)) rfl, zTb_of (tb_1 _ (List.mem_of_getElem? (i := 1) rfl)) rfl, by decide +kernel, by decide⟩
theorem iX5_bare : Cond.instanceMethod yX5_bare ∈ zTb := zTb_of (tb_3 _ (List.mem_of_getElem? (i := 138) rfl)) rfl
theorem eX5_bare : Cond.selects yX5_bare.cls yX5_bare yX5_bare ∈ zTb := zTb_of (tb_3 _ (List.mem_of_getElem? (i := 139) rfl)) rfl
abbrev mX5_weightIfAllIn : zM := (yX5_weightIfAllIn, cX5_weightIfAllIn, 8, (some .long))
theorem oX5_weightIfAllIn : zOk mX5_weightIfAllIn 3 := ⟨zTb_of (tb_3 _ (List.mem_of_getElem? (i := 161) rfl)) rfl, zTb_of (tb_1 _ (List.mem_of_getElem? (i := 1) rfl)) rfl, by decide +kernel, by decide⟩
theorem iX5_weightIfAllIn : Cond.instanceMethod yX5_weightIfAllIn ∈ zTb := zTb_of (tb_3 _ (List.mem_of_getElem? (i := 160) rfl)) rfl
theorem eX5_weightIfAllIn : Cond.selects yX5_weightIfAllIn.cls yX5_weightIfAllIn yX5_weightIfAllIn ∈ zTb := zTb_of (List.mem_append_left _ (List.mem_map.mpr ⟨_, List.mem_of_getElem? (i := 19) rfl, rfl⟩)) rfl
abbrev mX5_odds : zM := (yX5_odds, cX5_odds, 9, (some .int))
theorem oX5_odds : zOk mX5_odds 2 := ⟨zTb_of (tb_3 _ (List.mem_of_getElem? (i := 156) rfl)) rfl, zTb_of (tb_1 _ (List.mem_of_getElem? (i := 1) rfl)) rfl, by decide +kernel, by decide⟩
theorem iX5_odds : Cond.instanceMethod yX5_odds ∈ zTb := zTb_of (tb_3 _ (List.mem_of_getElem? (i := 154) rfl)) rfl
theorem eX5_odds : Cond.selects yX5_odds.cls yX5_odds yX5_odds ∈ zTb := zTb_of (tb_3 _ (List.mem_of_getElem? (i := 155) rfl)) rfl
abbrev mX5_ewes : zM := (yX5_ewes, cX5_ewes, 2, (some .int))
theorem oX5_ewes : zOk mX5_ewes 1 := ⟨zTb_of (tb_3 _ (List.mem_of_getElem? (i := 166) rfl)) rfl, zTb_of (tb_1 _ (List.mem_of_getElem? (i := 1) rfl)) rfl, by decide +kernel, by decide⟩
theorem iX5_ewes : Cond.instanceMethod yX5_ewes ∈ zTb := zTb_of (tb_3 _ (List.mem_of_getElem? (i := 164) rfl)) rfl
theorem eX5_ewes : Cond.selects yX5_ewes.cls yX5_ewes yX5_ewes ∈ zTb := zTb_of (tb_3 _ (List.mem_of_getElem? (i := 165) rfl)) rfl
abbrev mX5_path : zM := (yX5_path, cX5_path, 9, (some .int))
theorem oX5_path : zOk mX5_path 1 := ⟨zTb_of (tb_3 _ (List.mem_of_getElem? (i := 196) rfl)) rfl, zTb_of (tb_1 _ (List.mem_of_getElem? (i := 1) rfl)) rfl, by decide +kernel, by decide⟩
theorem iX5_path : Cond.instanceMethod yX5_path ∈ zTb := zTb_of (tb_3 _ (List.mem_of_getElem? (i := 194) rfl)) rfl
theorem eX5_path : Cond.selects yX5_path.cls yX5_path yX5_path ∈ zTb := zTb_of (tb_3 _ (List.mem_of_getElem? (i := 195) rfl)) rfl
abbrev mJ13_bitCount_95d88 : zM := (yJ13_bitCount_95d88, cJ13_bitCount_95d88, 2, (some .int))
theorem oJ13_bitCount_95d88 : zOk mJ13_bitCount_95d88 1 := ⟨zTb_of (tb_3 _ (List.mem_of_getElem? (i := 211) rfl)) rfl, zTb_of (tb_1 _ (List.mem_of_getElem? (i := 15) rfl)) rfl, by decide +kernel, by decide⟩
theorem sJ13_bitCount_95d88 : Cond.static yJ13_bitCount_95d88 ∈ zTb := zTb_of (tb_3 _ (List.mem_of_getElem? (i := 210) rfl)) rfl
abbrev mX5_reach : zM := (yX5_reach, cX5_reach, 7, (some .int))
theorem oX5_reach : zOk mX5_reach 1 := ⟨zTb_of (tb_3 _ (List.mem_of_getElem? (i := 208) rfl)) rfl, zTb_of (tb_1 _ (List.mem_of_getElem? (i := 1) rfl)) rfl, by decide +kernel, by decide⟩
theorem iX5_reach : Cond.instanceMethod yX5_reach ∈ zTb := zTb_of (tb_3 _ (List.mem_of_getElem? (i := 206) rfl)) rfl
theorem eX5_reach : Cond.selects yX5_reach.cls yX5_reach yX5_reach ∈ zTb := zTb_of (tb_3 _ (List.mem_of_getElem? (i := 207) rfl)) rfl
abbrev mX5_ways : zM := (yX5_ways, cX5_ways, 2, (some .int))
theorem oX5_ways : zOk mX5_ways 1 := ⟨zTb_of (tb_3 _ (List.mem_of_getElem? (i := 218) rfl)) rfl, zTb_of (tb_1 _ (List.mem_of_getElem? (i := 1) rfl)) rfl, by decide +kernel, by decide⟩
theorem iX5_ways : Cond.instanceMethod yX5_ways ∈ zTb := zTb_of (tb_3 _ (List.mem_of_getElem? (i := 216) rfl)) rfl
theorem eX5_ways : Cond.selects yX5_ways.cls yX5_ways yX5_ways ∈ zTb := zTb_of (tb_3 _ (List.mem_of_getElem? (i := 217) rfl)) rfl
abbrev mX5_open : zM := (yX5_open, cX5_open, 4, (some .int))
theorem oX5_open : zOk mX5_open 1 := ⟨zTb_of (tb_3 _ (List.mem_of_getElem? (i := 234) rfl)) rfl, zTb_of (tb_1 _ (List.mem_of_getElem? (i := 1) rfl)) rfl, by decide +kernel, by decide⟩
theorem iX5_open : Cond.instanceMethod yX5_open ∈ zTb := zTb_of (tb_3 _ (List.mem_of_getElem? (i := 232) rfl)) rfl
theorem eX5_open : Cond.selects yX5_open.cls yX5_open yX5_open ∈ zTb := zTb_of (tb_3 _ (List.mem_of_getElem? (i := 233) rfl)) rfl
abbrev mJ6_bitCount_0f7a4 : zM := (yJ6_bitCount_0f7a4, cJ6_bitCount_0f7a4, 1, (some .int))
theorem oJ6_bitCount_0f7a4 : zOk mJ6_bitCount_0f7a4 1 := ⟨zTb_of (tb_4 _ (List.mem_of_getElem? (i := 2) rfl)) rfl, zTb_of (tb_1 _ (List.mem_of_getElem? (i := 16) rfl)) rfl, by decide +kernel, by decide⟩
theorem sJ6_bitCount_0f7a4 : Cond.static yJ6_bitCount_0f7a4 ∈ zTb := zTb_of (tb_4 _ (List.mem_of_getElem? (i := 1) rfl)) rfl
abbrev mX5_still : zM := (yX5_still, cX5_still, 6, (some .int))
theorem oX5_still : zOk mX5_still 1 := ⟨zTb_of (tb_3 _ (List.mem_of_getElem? (i := 239) rfl)) rfl, zTb_of (tb_1 _ (List.mem_of_getElem? (i := 1) rfl)) rfl, by decide +kernel, by decide⟩
theorem iX5_still : Cond.instanceMethod yX5_still ∈ zTb := zTb_of (tb_3 _ (List.mem_of_getElem? (i := 237) rfl)) rfl
theorem eX5_still : Cond.selects yX5_still.cls yX5_still yX5_still ∈ zTb := zTb_of (tb_3 _ (List.mem_of_getElem? (i := 238) rfl)) rfl
abbrev mX5_grazing : zM := (yX5_grazing, cX5_grazing, 3, (some .int))
theorem oX5_grazing : zOk mX5_grazing 0 := ⟨zTb_of (tb_4 _ (List.mem_of_getElem? (i := 17) rfl)) rfl, zTb_of (tb_1 _ (List.mem_of_getElem? (i := 1) rfl)) rfl, by decide +kernel, by decide⟩
theorem iX5_grazing : Cond.instanceMethod yX5_grazing ∈ zTb := zTb_of (tb_4 _ (List.mem_of_getElem? (i := 15) rfl)) rfl
theorem eX5_grazing : Cond.selects yX5_grazing.cls yX5_grazing yX5_grazing ∈ zTb := zTb_of (tb_4 _ (List.mem_of_getElem? (i := 16) rfl)) rfl
abbrev mX5_held : zM := (yX5_held, cX5_held, 1, (some .int))
theorem oX5_held : zOk mX5_held 0 := ⟨zTb_of (tb_4 _ (List.mem_of_getElem? (i := 9) rfl)) rfl, zTb_of (tb_1 _ (List.mem_of_getElem? (i := 1) rfl)) rfl, by decide +kernel, by decide⟩
theorem iX5_held : Cond.instanceMethod yX5_held ∈ zTb := zTb_of (tb_4 _ (List.mem_of_getElem? (i := 7) rfl)) rfl
theorem eX5_held : Cond.selects yX5_held.cls yX5_held yX5_held ∈ zTb := zTb_of (tb_4 _ (List.mem_of_getElem? (i := 8) rfl)) rfl
abbrev mX5_last : zM := (yX5_last, cX5_last, 5, (some .int))
theorem oX5_last : zOk mX5_last 0 := ⟨zTb_of (tb_4 _ (List.mem_of_getElem? (i := 23) rfl)) rfl, zTb_of (tb_1 _ (List.mem_of_getElem? (i := 1) rfl)) rfl, by decide +kernel, by decide⟩
theorem iX5_last : Cond.instanceMethod yX5_last ∈ zTb := zTb_of (tb_4 _ (List.mem_of_getElem? (i := 21) rfl)) rfl
theorem eX5_last : Cond.selects yX5_last.cls yX5_last yX5_last ∈ zTb := zTb_of (tb_4 _ (List.mem_of_getElem? (i := 22) rfl)) rfl
abbrev mX5_near : zM := (yX5_near, cX5_near, 5, (some .int))
theorem oX5_near : zOk mX5_near 2 := ⟨zTb_of (tb_4 _ (List.mem_of_getElem? (i := 27) rfl)) rfl, zTb_of (tb_1 _ (List.mem_of_getElem? (i := 1) rfl)) rfl, by decide +kernel, by decide⟩
theorem iX5_near : Cond.instanceMethod yX5_near ∈ zTb := zTb_of (tb_4 _ (List.mem_of_getElem? (i := 25) rfl)) rfl
theorem eX5_near : Cond.selects yX5_near.cls yX5_near yX5_near ∈ zTb := zTb_of (tb_4 _ (List.mem_of_getElem? (i := 26) rfl)) rfl
abbrev mX5_steps : zM := (yX5_steps, cX5_steps, 1, (some .int))
theorem oX5_steps : zOk mX5_steps 0 := ⟨zTb_of (tb_4 _ (List.mem_of_getElem? (i := 31) rfl)) rfl, zTb_of (tb_1 _ (List.mem_of_getElem? (i := 1) rfl)) rfl, by decide +kernel, by decide⟩
theorem iX5_steps : Cond.instanceMethod yX5_steps ∈ zTb := zTb_of (tb_4 _ (List.mem_of_getElem? (i := 29) rfl)) rfl
theorem eX5_steps : Cond.selects yX5_steps.cls yX5_steps yX5_steps ∈ zTb := zTb_of (tb_4 _ (List.mem_of_getElem? (i := 30) rfl)) rfl
abbrev mX5_best : zM := (yX5_best, cX5_best, 5, (some .int))
theorem oX5_best : zOk mX5_best 0 := ⟨zTb_of (tb_4 _ (List.mem_of_getElem? (i := 35) rfl)) rfl, zTb_of (tb_1 _ (List.mem_of_getElem? (i := 1) rfl)) rfl, by decide +kernel, by decide⟩
theorem iX5_best : Cond.instanceMethod yX5_best ∈ zTb := zTb_of (tb_4 _ (List.mem_of_getElem? (i := 33) rfl)) rfl
theorem eX5_best : Cond.selects yX5_best.cls yX5_best yX5_best ∈ zTb := zTb_of (tb_4 _ (List.mem_of_getElem? (i := 34) rfl)) rfl
abbrev mX5_areCells : zM := (yX5_areCells, cX5_areCells, 6, (some .boolean))
theorem oX5_areCells : zOk mX5_areCells 2 := ⟨zTb_of (tb_4 _ (List.mem_of_getElem? (i := 44) rfl)) rfl, zTb_of (tb_1 _ (List.mem_of_getElem? (i := 1) rfl)) rfl, by decide +kernel, by decide⟩
theorem iX5_areCells : Cond.instanceMethod yX5_areCells ∈ zTb := zTb_of (tb_4 _ (List.mem_of_getElem? (i := 43) rfl)) rfl
theorem eX5_areCells : Cond.selects yX5_areCells.cls yX5_areCells yX5_areCells ∈ zTb := zTb_of (List.mem_append_left _ (List.mem_map.mpr ⟨_, List.mem_of_getElem? (i := 22) rfl, rfl⟩)) rfl
abbrev mX5_goesSo : zM := (yX5_goesSo, cX5_goesSo, 8, (some .boolean))
theorem oX5_goesSo : zOk mX5_goesSo 5 := ⟨zTb_of (tb_4 _ (List.mem_of_getElem? (i := 49) rfl)) rfl, zTb_of (tb_1 _ (List.mem_of_getElem? (i := 1) rfl)) rfl, by decide +kernel, by decide⟩
theorem iX5_goesSo : Cond.instanceMethod yX5_goesSo ∈ zTb := zTb_of (tb_4 _ (List.mem_of_getElem? (i := 48) rfl)) rfl
theorem eX5_goesSo : Cond.selects yX5_goesSo.cls yX5_goesSo yX5_goesSo ∈ zTb := zTb_of (List.mem_append_left _ (List.mem_map.mpr ⟨_, List.mem_of_getElem? (i := 23) rfl, rfl⟩)) rfl
abbrev mX5_kinds : zM := (yX5_kinds, cX5_kinds, 9, (some .int))
theorem oX5_kinds : zOk mX5_kinds 4 := ⟨zTb_of (tb_4 _ (List.mem_of_getElem? (i := 40) rfl)) rfl, zTb_of (tb_1 _ (List.mem_of_getElem? (i := 1) rfl)) rfl, by decide +kernel, by decide⟩
theorem iX5_kinds : Cond.instanceMethod yX5_kinds ∈ zTb := zTb_of (tb_4 _ (List.mem_of_getElem? (i := 38) rfl)) rfl
theorem eX5_kinds : Cond.selects yX5_kinds.cls yX5_kinds yX5_kinds ∈ zTb := zTb_of (tb_4 _ (List.mem_of_getElem? (i := 39) rfl)) rfl
abbrev mX5_firstWrong : zM := (yX5_firstWrong, cX5_firstWrong, 7, (some .int))
theorem oX5_firstWrong : zOk mX5_firstWrong 2 := ⟨zTb_of (tb_4 _ (List.mem_of_getElem? (i := 57) rfl)) rfl, zTb_of (tb_1 _ (List.mem_of_getElem? (i := 1) rfl)) rfl, by decide +kernel, by decide⟩
theorem iX5_firstWrong : Cond.instanceMethod yX5_firstWrong ∈ zTb := zTb_of (tb_4 _ (List.mem_of_getElem? (i := 56) rfl)) rfl
theorem eX5_firstWrong : Cond.selects yX5_firstWrong.cls yX5_firstWrong yX5_firstWrong ∈ zTb := zTb_of (List.mem_append_left _ (List.mem_map.mpr ⟨_, List.mem_of_getElem? (i := 24) rfl, rfl⟩)) rfl
abbrev mX5_judge : zM := (yX5_judge, cX5_judge, 4, (some .int))
theorem oX5_judge : zOk mX5_judge 2 := ⟨zTb_of (tb_4 _ (List.mem_of_getElem? (i := 53) rfl)) rfl, zTb_of (tb_1 _ (List.mem_of_getElem? (i := 1) rfl)) rfl, by decide +kernel, by decide⟩
theorem iX5_judge : Cond.instanceMethod yX5_judge ∈ zTb := zTb_of (tb_4 _ (List.mem_of_getElem? (i := 51) rfl)) rfl
theorem eX5_judge : Cond.selects yX5_judge.cls yX5_judge yX5_judge ∈ zTb := zTb_of (tb_4 _ (List.mem_of_getElem? (i := 52) rfl)) rfl
abbrev mX5_faultOfDoable : zM := (yX5_faultOfDoable, cX5_faultOfDoable, 4, (some .int))
theorem oX5_faultOfDoable : zOk mX5_faultOfDoable 2 := ⟨zTb_of (tb_4 _ (List.mem_of_getElem? (i := 65) rfl)) rfl, zTb_of (tb_1 _ (List.mem_of_getElem? (i := 1) rfl)) rfl, by decide +kernel, by decide⟩
theorem iX5_faultOfDoable : Cond.instanceMethod yX5_faultOfDoable ∈ zTb := zTb_of (tb_4 _ (List.mem_of_getElem? (i := 64) rfl)) rfl
theorem eX5_faultOfDoable : Cond.selects yX5_faultOfDoable.cls yX5_faultOfDoable yX5_faultOfDoable ∈ zTb := zTb_of (List.mem_append_left _ (List.mem_map.mpr ⟨_, List.mem_of_getElem? (i := 25) rfl, rfl⟩)) rfl
abbrev mX5_behind : zM := (yX5_behind, cX5_behind, 6, (some .int))
theorem oX5_behind : zOk mX5_behind 3 := ⟨zTb_of (tb_4 _ (List.mem_of_getElem? (i := 61) rfl)) rfl, zTb_of (tb_1 _ (List.mem_of_getElem? (i := 1) rfl)) rfl, by decide +kernel, by decide⟩
theorem iX5_behind : Cond.instanceMethod yX5_behind ∈ zTb := zTb_of (tb_4 _ (List.mem_of_getElem? (i := 59) rfl)) rfl
theorem eX5_behind : Cond.selects yX5_behind.cls yX5_behind yX5_behind ∈ zTb := zTb_of (tb_4 _ (List.mem_of_getElem? (i := 60) rfl)) rfl
abbrev mX5_done : zM := (yX5_done, cX5_done, 4, (some .int))
theorem oX5_done : zOk mX5_done 2 := ⟨zTb_of (tb_4 _ (List.mem_of_getElem? (i := 69) rfl)) rfl, zTb_of (tb_1 _ (List.mem_of_getElem? (i := 1) rfl)) rfl, by decide +kernel, by decide⟩
theorem iX5_done : Cond.instanceMethod yX5_done ∈ zTb := zTb_of (tb_4 _ (List.mem_of_getElem? (i := 67) rfl)) rfl
theorem eX5_done : Cond.selects yX5_done.cls yX5_done yX5_done ∈ zTb := zTb_of (tb_4 _ (List.mem_of_getElem? (i := 68) rfl)) rfl
abbrev mX5_turn : zM := (yX5_turn, cX5_turn, 2, (some .int))
theorem oX5_turn : zOk mX5_turn 1 := ⟨zTb_of (tb_4 _ (List.mem_of_getElem? (i := 73) rfl)) rfl, zTb_of (tb_1 _ (List.mem_of_getElem? (i := 1) rfl)) rfl, by decide +kernel, by decide⟩
theorem iX5_turn : Cond.instanceMethod yX5_turn ∈ zTb := zTb_of (tb_4 _ (List.mem_of_getElem? (i := 71) rfl)) rfl
theorem eX5_turn : Cond.selects yX5_turn.cls yX5_turn yX5_turn ∈ zTb := zTb_of (tb_4 _ (List.mem_of_getElem? (i := 72) rfl)) rfl
abbrev mX5_evening : zM := (yX5_evening, cX5_evening, 6, (some .int))
theorem oX5_evening : zOk mX5_evening 1 := ⟨zTb_of (tb_4 _ (List.mem_of_getElem? (i := 77) rfl)) rfl, zTb_of (tb_1 _ (List.mem_of_getElem? (i := 1) rfl)) rfl, by decide +kernel, by decide⟩
theorem iX5_evening : Cond.instanceMethod yX5_evening ∈ zTb := zTb_of (tb_4 _ (List.mem_of_getElem? (i := 75) rfl)) rfl
theorem eX5_evening : Cond.selects yX5_evening.cls yX5_evening yX5_evening ∈ zTb := zTb_of (tb_4 _ (List.mem_of_getElem? (i := 76) rfl)) rfl
abbrev mX5_seed : zM := (yX5_seed, cX5_seed, 3, (some .int))
theorem oX5_seed : zOk mX5_seed 1 := ⟨zTb_of (tb_4 _ (List.mem_of_getElem? (i := 86) rfl)) rfl, zTb_of (tb_1 _ (List.mem_of_getElem? (i := 1) rfl)) rfl, by decide +kernel, by decide⟩
theorem iX5_seed : Cond.instanceMethod yX5_seed ∈ zTb := zTb_of (tb_4 _ (List.mem_of_getElem? (i := 84) rfl)) rfl
theorem eX5_seed : Cond.selects yX5_seed.cls yX5_seed yX5_seed ∈ zTb := zTb_of (tb_4 _ (List.mem_of_getElem? (i := 85) rfl)) rfl
abbrev mX5_image : zM := (yX5_image, cX5_image, 1, (some .int))
theorem oX5_image : zOk mX5_image 0 := ⟨zTb_of (tb_4 _ (List.mem_of_getElem? (i := 90) rfl)) rfl, zTb_of (tb_1 _ (List.mem_of_getElem? (i := 1) rfl)) rfl, by decide +kernel, by decide⟩
theorem iX5_image : Cond.instanceMethod yX5_image ∈ zTb := zTb_of (tb_4 _ (List.mem_of_getElem? (i := 88) rfl)) rfl
theorem eX5_image : Cond.selects yX5_image.cls yX5_image yX5_image ∈ zTb := zTb_of (tb_4 _ (List.mem_of_getElem? (i := 89) rfl)) rfl
abbrev mX5_back : zM := (yX5_back, cX5_back, 2, (some .int))
theorem oX5_back : zOk mX5_back 0 := ⟨zTb_of (tb_4 _ (List.mem_of_getElem? (i := 94) rfl)) rfl, zTb_of (tb_1 _ (List.mem_of_getElem? (i := 1) rfl)) rfl, by decide +kernel, by decide⟩
theorem iX5_back : Cond.instanceMethod yX5_back ∈ zTb := zTb_of (tb_4 _ (List.mem_of_getElem? (i := 92) rfl)) rfl
theorem eX5_back : Cond.selects yX5_back.cls yX5_back yX5_back ∈ zTb := zTb_of (tb_4 _ (List.mem_of_getElem? (i := 93) rfl)) rfl
abbrev mX5_countFilledShelves : zM := (yX5_countFilledShelves, cX5_countFilledShelves, 3, (some .int))
theorem oX5_countFilledShelves : zOk mX5_countFilledShelves 0 := ⟨zTb_of (tb_4 _ (List.mem_of_getElem? (i := 102) rfl)) rfl, zTb_of (tb_1 _ (List.mem_of_getElem? (i := 1) rfl)) rfl, by decide +kernel, by decide⟩
theorem iX5_countFilledShelves : Cond.instanceMethod yX5_countFilledShelves ∈ zTb := zTb_of (tb_4 _ (List.mem_of_getElem? (i := 101) rfl)) rfl
theorem eX5_countFilledShelves : Cond.selects yX5_countFilledShelves.cls yX5_countFilledShelves yX5_countFilledShelves ∈ zTb := zTb_of (List.mem_append_left _ (List.mem_map.mpr ⟨_, List.mem_of_getElem? (i := 26) rfl, rfl⟩)) rfl
abbrev mX5_status : zM := (yX5_status, cX5_status, 2, (some .int))
theorem oX5_status : zOk mX5_status 1 := ⟨zTb_of (tb_4 _ (List.mem_of_getElem? (i := 98) rfl)) rfl, zTb_of (tb_1 _ (List.mem_of_getElem? (i := 1) rfl)) rfl, by decide +kernel, by decide⟩
theorem iX5_status : Cond.instanceMethod yX5_status ∈ zTb := zTb_of (tb_4 _ (List.mem_of_getElem? (i := 96) rfl)) rfl
theorem eX5_status : Cond.selects yX5_status.cls yX5_status yX5_status ∈ zTb := zTb_of (tb_4 _ (List.mem_of_getElem? (i := 97) rfl)) rfl
abbrev mX6_init : zM := (yX6_init, cX6_init, 2, none)
theorem oX6_init : zOk mX6_init 0 := ⟨zTb_of (tb_4 _ (List.mem_of_getElem? (i := 107) rfl)) rfl, zTb_of (tb_1 _ (List.mem_of_getElem? (i := 7) rfl)) rfl, by decide +kernel, by decide⟩
theorem iX6_init : Cond.instanceMethod yX6_init ∈ zTb := zTb_of (tb_4 _ (List.mem_of_getElem? (i := 106) rfl)) rfl
abbrev mX6_no : zM := (yX6_no, cX6_no, 2, (some .int))
theorem oX6_no : zOk mX6_no 1 := ⟨zTb_of (tb_4 _ (List.mem_of_getElem? (i := 214) rfl)) rfl, zTb_of (tb_1 _ (List.mem_of_getElem? (i := 7) rfl)) rfl, by decide +kernel, by decide⟩
theorem iX6_no : Cond.instanceMethod yX6_no ∈ zTb := zTb_of (tb_4 _ (List.mem_of_getElem? (i := 213) rfl)) rfl
theorem eX6_no : Cond.selects yX6_no.cls yX6_no yX6_no ∈ zTb := zTb_of (List.mem_append_left _ (List.mem_map.mpr ⟨_, List.mem_of_getElem? (i := 27) rfl, rfl⟩)) rfl
abbrev mX6_within : zM := (yX6_within, cX6_within, 3, (some .boolean))
theorem oX6_within : zOk mX6_within 3 := ⟨zTb_of (tb_4 _ (List.mem_of_getElem? (i := 210) rfl)) rfl, zTb_of (tb_1 _ (List.mem_of_getElem? (i := 7) rfl)) rfl, by decide +kernel, by decide⟩
theorem sX6_within : Cond.static yX6_within ∈ zTb := zTb_of (tb_4 _ (List.mem_of_getElem? (i := 209) rfl)) rfl
abbrev mX6_isCell : zM := (yX6_isCell, cX6_isCell, 3, (some .boolean))
theorem oX6_isCell : zOk mX6_isCell 1 := ⟨zTb_of (tb_5 _ (List.mem_of_getElem? (i := 64) rfl)) rfl, zTb_of (tb_1 _ (List.mem_of_getElem? (i := 7) rfl)) rfl, by decide +kernel, by decide⟩
theorem iX6_isCell : Cond.instanceMethod yX6_isCell ∈ zTb := zTb_of (tb_5 _ (List.mem_of_getElem? (i := 63) rfl)) rfl
theorem eX6_isCell : Cond.selects yX6_isCell.cls yX6_isCell yX6_isCell ∈ zTb := zTb_of (List.mem_append_left _ (List.mem_map.mpr ⟨_, List.mem_of_getElem? (i := 39) rfl, rfl⟩)) rfl
abbrev mX6_isEwe : zM := (yX6_isEwe, cX6_isEwe, 2, (some .boolean))
theorem oX6_isEwe : zOk mX6_isEwe 1 := ⟨zTb_of (tb_5 _ (List.mem_of_getElem? (i := 9) rfl)) rfl, zTb_of (tb_1 _ (List.mem_of_getElem? (i := 7) rfl)) rfl, by decide +kernel, by decide⟩
theorem iX6_isEwe : Cond.instanceMethod yX6_isEwe ∈ zTb := zTb_of (tb_5 _ (List.mem_of_getElem? (i := 8) rfl)) rfl
theorem eX6_isEwe : Cond.selects yX6_isEwe.cls yX6_isEwe yX6_isEwe ∈ zTb := zTb_of (List.mem_append_left _ (List.mem_map.mpr ⟨_, List.mem_of_getElem? (i := 30) rfl, rfl⟩)) rfl
abbrev mX6_isShelf : zM := (yX6_isShelf, cX6_isShelf, 1, (some .boolean))
theorem oX6_isShelf : zOk mX6_isShelf 1 := ⟨zTb_of (tb_4 _ (List.mem_of_getElem? (i := 207) rfl)) rfl, zTb_of (tb_1 _ (List.mem_of_getElem? (i := 7) rfl)) rfl, by decide +kernel, by decide⟩
theorem sX6_isShelf : Cond.static yX6_isShelf ∈ zTb := zTb_of (tb_4 _ (List.mem_of_getElem? (i := 206) rfl)) rfl
abbrev mX6_isRow : zM := (yX6_isRow, cX6_isRow, 2, (some .boolean))
theorem oX6_isRow : zOk mX6_isRow 1 := ⟨zTb_of (tb_4 _ (List.mem_of_getElem? (i := 222) rfl)) rfl, zTb_of (tb_1 _ (List.mem_of_getElem? (i := 7) rfl)) rfl, by decide +kernel, by decide⟩
theorem iX6_isRow : Cond.instanceMethod yX6_isRow ∈ zTb := zTb_of (tb_4 _ (List.mem_of_getElem? (i := 221) rfl)) rfl
theorem eX6_isRow : Cond.selects yX6_isRow.cls yX6_isRow yX6_isRow ∈ zTb := zTb_of (List.mem_append_left _ (List.mem_map.mpr ⟨_, List.mem_of_getElem? (i := 28) rfl, rfl⟩)) rfl
abbrev mX6_row : zM := (yX6_row, cX6_row, 5, (some .int))
theorem oX6_row : zOk mX6_row 3 := ⟨zTb_of (tb_4 _ (List.mem_of_getElem? (i := 204) rfl)) rfl, zTb_of (tb_1 _ (List.mem_of_getElem? (i := 7) rfl)) rfl, by decide +kernel, by decide⟩
theorem iX6_row : Cond.instanceMethod yX6_row ∈ zTb := zTb_of (tb_4 _ (List.mem_of_getElem? (i := 202) rfl)) rfl
theorem eX6_row : Cond.selects yX6_row.cls yX6_row yX6_row ∈ zTb := zTb_of (tb_4 _ (List.mem_of_getElem? (i := 203) rfl)) rfl
abbrev mX6_noRow : zM := (yX6_noRow, cX6_noRow, 2, (some .int))
theorem oX6_noRow : zOk mX6_noRow 1 := ⟨zTb_of (tb_4 _ (List.mem_of_getElem? (i := 226) rfl)) rfl, zTb_of (tb_1 _ (List.mem_of_getElem? (i := 7) rfl)) rfl, by decide +kernel, by decide⟩
theorem iX6_noRow : Cond.instanceMethod yX6_noRow ∈ zTb := zTb_of (tb_4 _ (List.mem_of_getElem? (i := 225) rfl)) rfl
theorem eX6_noRow : Cond.selects yX6_noRow.cls yX6_noRow yX6_noRow ∈ zTb := zTb_of (List.mem_append_left _ (List.mem_map.mpr ⟨_, List.mem_of_getElem? (i := 29) rfl, rfl⟩)) rfl
abbrev mX6_kept : zM := (yX6_kept, cX6_kept, 3, (some .long))
theorem oX6_kept : zOk mX6_kept 2 := ⟨zTb_of (tb_4 _ (List.mem_of_getElem? (i := 229) rfl)) rfl, zTb_of (tb_1 _ (List.mem_of_getElem? (i := 7) rfl)) rfl, by decide +kernel, by decide⟩
theorem sX6_kept : Cond.static yX6_kept ∈ zTb := zTb_of (tb_4 _ (List.mem_of_getElem? (i := 228) rfl)) rfl
abbrev mX6_set : zM := (yX6_set, cX6_set, 5, (some .int))
theorem oX6_set : zOk mX6_set 3 := ⟨zTb_of (tb_4 _ (List.mem_of_getElem? (i := 218) rfl)) rfl, zTb_of (tb_1 _ (List.mem_of_getElem? (i := 7) rfl)) rfl, by decide +kernel, by decide⟩
theorem iX6_set : Cond.instanceMethod yX6_set ∈ zTb := zTb_of (tb_4 _ (List.mem_of_getElem? (i := 216) rfl)) rfl
theorem eX6_set : Cond.selects yX6_set.cls yX6_set yX6_set ∈ zTb := zTb_of (tb_4 _ (List.mem_of_getElem? (i := 217) rfl)) rfl
abbrev mX6_copy : zM := (yX6_copy, cX6_copy, 7, (some .int))
theorem oX6_copy : zOk mX6_copy 5 := ⟨zTb_of (tb_4 _ (List.mem_of_getElem? (i := 233) rfl)) rfl, zTb_of (tb_1 _ (List.mem_of_getElem? (i := 7) rfl)) rfl, by decide +kernel, by decide⟩
theorem iX6_copy : Cond.instanceMethod yX6_copy ∈ zTb := zTb_of (tb_4 _ (List.mem_of_getElem? (i := 231) rfl)) rfl
theorem eX6_copy : Cond.selects yX6_copy.cls yX6_copy yX6_copy ∈ zTb := zTb_of (tb_4 _ (List.mem_of_getElem? (i := 232) rfl)) rfl
abbrev mX6_element : zM := (yX6_element, cX6_element, 3, (some .long))
theorem oX6_element : zOk mX6_element 2 := ⟨zTb_of (tb_4 _ (List.mem_of_getElem? (i := 237) rfl)) rfl, zTb_of (tb_1 _ (List.mem_of_getElem? (i := 7) rfl)) rfl, by decide +kernel, by decide⟩
theorem iX6_element : Cond.instanceMethod yX6_element ∈ zTb := zTb_of (tb_4 _ (List.mem_of_getElem? (i := 235) rfl)) rfl
theorem eX6_element : Cond.selects yX6_element.cls yX6_element yX6_element ∈ zTb := zTb_of (tb_4 _ (List.mem_of_getElem? (i := 236) rfl)) rfl
abbrev mX6_holds : zM := (yX6_holds, cX6_holds, 2, (some .int))
theorem oX6_holds : zOk mX6_holds 1 := ⟨zTb_of (tb_5 _ (List.mem_of_getElem? (i := 1) rfl)) rfl, zTb_of (tb_1 _ (List.mem_of_getElem? (i := 7) rfl)) rfl, by decide +kernel, by decide⟩
theorem iX6_holds : Cond.instanceMethod yX6_holds ∈ zTb := zTb_of (tb_4 _ (List.mem_of_getElem? (i := 239) rfl)) rfl
theorem eX6_holds : Cond.selects yX6_holds.cls yX6_holds yX6_holds ∈ zTb := zTb_of (tb_5 _ (List.mem_of_getElem? (i := 0) rfl)) rfl
abbrev mX6_show : zM := (yX6_show, cX6_show, 3, (some .int))
theorem oX6_show : zOk mX6_show 2 := ⟨zTb_of (tb_5 _ (List.mem_of_getElem? (i := 5) rfl)) rfl, zTb_of (tb_1 _ (List.mem_of_getElem? (i := 7) rfl)) rfl, by decide +kernel, by decide⟩
theorem iX6_show : Cond.instanceMethod yX6_show ∈ zTb := zTb_of (tb_5 _ (List.mem_of_getElem? (i := 3) rfl)) rfl
theorem eX6_show : Cond.selects yX6_show.cls yX6_show yX6_show ∈ zTb := zTb_of (tb_5 _ (List.mem_of_getElem? (i := 4) rfl)) rfl
abbrev mX6_isUnder : zM := (yX6_isUnder, cX6_isUnder, 2, (some .boolean))
theorem oX6_isUnder : zOk mX6_isUnder 2 := ⟨zTb_of (tb_5 _ (List.mem_of_getElem? (i := 16) rfl)) rfl, zTb_of (tb_1 _ (List.mem_of_getElem? (i := 7) rfl)) rfl, by decide +kernel, by decide⟩
theorem sX6_isUnder : Cond.static yX6_isUnder ∈ zTb := zTb_of (tb_5 _ (List.mem_of_getElem? (i := 15) rfl)) rfl
abbrev mX6_saves : zM := (yX6_saves, cX6_saves, 3, none)
theorem oX6_saves : zOk mX6_saves 1 := ⟨zTb_of (tb_5 _ (List.mem_of_getElem? (i := 20) rfl)) rfl, zTb_of (tb_1 _ (List.mem_of_getElem? (i := 7) rfl)) rfl, by decide +kernel, by decide⟩
theorem iX6_saves : Cond.instanceMethod yX6_saves ∈ zTb := zTb_of (tb_5 _ (List.mem_of_getElem? (i := 19) rfl)) rfl
theorem eX6_saves : Cond.selects yX6_saves.cls yX6_saves yX6_saves ∈ zTb := zTb_of (List.mem_append_left _ (List.mem_map.mpr ⟨_, List.mem_of_getElem? (i := 31) rfl, rfl⟩)) rfl
abbrev mX6_isIn : zM := (yX6_isIn, cX6_isIn, 2, (some .boolean))
theorem oX6_isIn : zOk mX6_isIn 1 := ⟨zTb_of (tb_5 _ (List.mem_of_getElem? (i := 28) rfl)) rfl, zTb_of (tb_1 _ (List.mem_of_getElem? (i := 7) rfl)) rfl, by decide +kernel, by decide⟩
theorem iX6_isIn : Cond.instanceMethod yX6_isIn ∈ zTb := zTb_of (tb_5 _ (List.mem_of_getElem? (i := 27) rfl)) rfl
theorem eX6_isIn : Cond.selects yX6_isIn.cls yX6_isIn yX6_isIn ∈ zTb := zTb_of (List.mem_append_left _ (List.mem_map.mpr ⟨_, List.mem_of_getElem? (i := 33) rfl, rfl⟩)) rfl
abbrev mX6_steps : zM := (yX6_steps, cX6_steps, 2, (some .int))
theorem oX6_steps : zOk mX6_steps 2 := ⟨zTb_of (tb_5 _ (List.mem_of_getElem? (i := 31) rfl)) rfl, zTb_of (tb_1 _ (List.mem_of_getElem? (i := 7) rfl)) rfl, by decide +kernel, by decide⟩
theorem sX6_steps : Cond.static yX6_steps ∈ zTb := zTb_of (tb_5 _ (List.mem_of_getElem? (i := 30) rfl)) rfl
abbrev mX6_leaderOf : zM := (yX6_leaderOf, cX6_leaderOf, 3, (some .int))
theorem oX6_leaderOf : zOk mX6_leaderOf 1 := ⟨zTb_of (tb_5 _ (List.mem_of_getElem? (i := 40) rfl)) rfl, zTb_of (tb_1 _ (List.mem_of_getElem? (i := 7) rfl)) rfl, by decide +kernel, by decide⟩
theorem iX6_leaderOf : Cond.instanceMethod yX6_leaderOf ∈ zTb := zTb_of (tb_5 _ (List.mem_of_getElem? (i := 39) rfl)) rfl
theorem eX6_leaderOf : Cond.selects yX6_leaderOf.cls yX6_leaderOf yX6_leaderOf ∈ zTb := zTb_of (List.mem_append_left _ (List.mem_map.mpr ⟨_, List.mem_of_getElem? (i := 35) rfl, rfl⟩)) rfl
abbrev mX6_beside : zM := (yX6_beside, cX6_beside, 5, (some .int))
theorem oX6_beside : zOk mX6_beside 2 := ⟨zTb_of (tb_5 _ (List.mem_of_getElem? (i := 48) rfl)) rfl, zTb_of (tb_1 _ (List.mem_of_getElem? (i := 7) rfl)) rfl, by decide +kernel, by decide⟩
theorem iX6_beside : Cond.instanceMethod yX6_beside ∈ zTb := zTb_of (tb_5 _ (List.mem_of_getElem? (i := 47) rfl)) rfl
theorem eX6_beside : Cond.selects yX6_beside.cls yX6_beside yX6_beside ∈ zTb := zTb_of (List.mem_append_left _ (List.mem_map.mpr ⟨_, List.mem_of_getElem? (i := 37) rfl, rfl⟩)) rfl
abbrev mX6_flees : zM := (yX6_flees, cX6_flees, 6, none)
theorem oX6_flees : zOk mX6_flees 2 := ⟨zTb_of (tb_5 _ (List.mem_of_getElem? (i := 44) rfl)) rfl, zTb_of (tb_1 _ (List.mem_of_getElem? (i := 7) rfl)) rfl, by decide +kernel, by decide⟩
theorem iX6_flees : Cond.instanceMethod yX6_flees ∈ zTb := zTb_of (tb_5 _ (List.mem_of_getElem? (i := 43) rfl)) rfl
theorem eX6_flees : Cond.selects yX6_flees.cls yX6_flees yX6_flees ∈ zTb := zTb_of (List.mem_append_left _ (List.mem_map.mpr ⟨_, List.mem_of_getElem? (i := 36) rfl, rfl⟩)) rfl
abbrev mX6_runs : zM := (yX6_runs, cX6_runs, 5, none)
theorem oX6_runs : zOk mX6_runs 3 := ⟨zTb_of (tb_5 _ (List.mem_of_getElem? (i := 36) rfl)) rfl, zTb_of (tb_1 _ (List.mem_of_getElem? (i := 7) rfl)) rfl, by decide +kernel, by decide⟩
theorem iX6_runs : Cond.instanceMethod yX6_runs ∈ zTb := zTb_of (tb_5 _ (List.mem_of_getElem? (i := 35) rfl)) rfl
theorem eX6_runs : Cond.selects yX6_runs.cls yX6_runs yX6_runs ∈ zTb := zTb_of (List.mem_append_left _ (List.mem_map.mpr ⟨_, List.mem_of_getElem? (i := 34) rfl, rfl⟩)) rfl
abbrev mX6_eweGoes : zM := (yX6_eweGoes, cX6_eweGoes, 3, none)
theorem oX6_eweGoes : zOk mX6_eweGoes 1 := ⟨zTb_of (tb_5 _ (List.mem_of_getElem? (i := 24) rfl)) rfl, zTb_of (tb_1 _ (List.mem_of_getElem? (i := 7) rfl)) rfl, by decide +kernel, by decide⟩
theorem iX6_eweGoes : Cond.instanceMethod yX6_eweGoes ∈ zTb := zTb_of (tb_5 _ (List.mem_of_getElem? (i := 23) rfl)) rfl
theorem eX6_eweGoes : Cond.selects yX6_eweGoes.cls yX6_eweGoes yX6_eweGoes ∈ zTb := zTb_of (List.mem_append_left _ (List.mem_map.mpr ⟨_, List.mem_of_getElem? (i := 32) rfl, rfl⟩)) rfl
abbrev mX6_again : zM := (yX6_again, cX6_again, 3, none)
theorem oX6_again : zOk mX6_again 1 := ⟨zTb_of (tb_5 _ (List.mem_of_getElem? (i := 52) rfl)) rfl, zTb_of (tb_1 _ (List.mem_of_getElem? (i := 7) rfl)) rfl, by decide +kernel, by decide⟩
theorem iX6_again : Cond.instanceMethod yX6_again ∈ zTb := zTb_of (tb_5 _ (List.mem_of_getElem? (i := 51) rfl)) rfl
theorem eX6_again : Cond.selects yX6_again.cls yX6_again yX6_again ∈ zTb := zTb_of (List.mem_append_left _ (List.mem_map.mpr ⟨_, List.mem_of_getElem? (i := 38) rfl, rfl⟩)) rfl
abbrev mX6_says : zM := (yX6_says, cX6_says, 5, (some .int))
theorem oX6_says : zOk mX6_says 2 := ⟨zTb_of (tb_5 _ (List.mem_of_getElem? (i := 13) rfl)) rfl, zTb_of (tb_1 _ (List.mem_of_getElem? (i := 7) rfl)) rfl, by decide +kernel, by decide⟩
theorem iX6_says : Cond.instanceMethod yX6_says ∈ zTb := zTb_of (tb_5 _ (List.mem_of_getElem? (i := 11) rfl)) rfl
theorem eX6_says : Cond.selects yX6_says.cls yX6_says yX6_says ∈ zTb := zTb_of (tb_5 _ (List.mem_of_getElem? (i := 12) rfl)) rfl
abbrev mX6_isEweAt : zM := (yX6_isEweAt, cX6_isEweAt, 3, (some .boolean))
theorem oX6_isEweAt : zOk mX6_isEweAt 1 := ⟨zTb_of (tb_5 _ (List.mem_of_getElem? (i := 73) rfl)) rfl, zTb_of (tb_1 _ (List.mem_of_getElem? (i := 7) rfl)) rfl, by decide +kernel, by decide⟩
theorem iX6_isEweAt : Cond.instanceMethod yX6_isEweAt ∈ zTb := zTb_of (tb_5 _ (List.mem_of_getElem? (i := 72) rfl)) rfl
theorem eX6_isEweAt : Cond.selects yX6_isEweAt.cls yX6_isEweAt yX6_isEweAt ∈ zTb := zTb_of (List.mem_append_left _ (List.mem_map.mpr ⟨_, List.mem_of_getElem? (i := 41) rfl, rfl⟩)) rfl
abbrev mX6_in : zM := (yX6_in, cX6_in, 3, (some .int))
theorem oX6_in : zOk mX6_in 0 := ⟨zTb_of (tb_5 _ (List.mem_of_getElem? (i := 85) rfl)) rfl, zTb_of (tb_1 _ (List.mem_of_getElem? (i := 7) rfl)) rfl, by decide +kernel, by decide⟩
theorem iX6_in : Cond.instanceMethod yX6_in ∈ zTb := zTb_of (tb_5 _ (List.mem_of_getElem? (i := 84) rfl)) rfl
theorem eX6_in : Cond.selects yX6_in.cls yX6_in yX6_in ∈ zTb := zTb_of (List.mem_append_left _ (List.mem_map.mpr ⟨_, List.mem_of_getElem? (i := 43) rfl, rfl⟩)) rfl
abbrev mX6_side : zM := (yX6_side, cX6_side, 3, (some .int))
theorem oX6_side : zOk mX6_side 1 := ⟨zTb_of (tb_5 _ (List.mem_of_getElem? (i := 56) rfl)) rfl, zTb_of (tb_1 _ (List.mem_of_getElem? (i := 7) rfl)) rfl, by decide +kernel, by decide⟩
theorem iX6_side : Cond.instanceMethod yX6_side ∈ zTb := zTb_of (tb_5 _ (List.mem_of_getElem? (i := 54) rfl)) rfl
theorem eX6_side : Cond.selects yX6_side.cls yX6_side yX6_side ∈ zTb := zTb_of (tb_5 _ (List.mem_of_getElem? (i := 55) rfl)) rfl
abbrev mX6_mayWall : zM := (yX6_mayWall, cX6_mayWall, 2, (some .boolean))
theorem oX6_mayWall : zOk mX6_mayWall 1 := ⟨zTb_of (tb_5 _ (List.mem_of_getElem? (i := 69) rfl)) rfl, zTb_of (tb_1 _ (List.mem_of_getElem? (i := 7) rfl)) rfl, by decide +kernel, by decide⟩
theorem iX6_mayWall : Cond.instanceMethod yX6_mayWall ∈ zTb := zTb_of (tb_5 _ (List.mem_of_getElem? (i := 68) rfl)) rfl
theorem eX6_mayWall : Cond.selects yX6_mayWall.cls yX6_mayWall yX6_mayWall ∈ zTb := zTb_of (List.mem_append_left _ (List.mem_map.mpr ⟨_, List.mem_of_getElem? (i := 40) rfl, rfl⟩)) rfl
abbrev mX6_wall : zM := (yX6_wall, cX6_wall, 4, (some .int))
theorem oX6_wall : zOk mX6_wall 2 := ⟨zTb_of (tb_5 _ (List.mem_of_getElem? (i := 60) rfl)) rfl, zTb_of (tb_1 _ (List.mem_of_getElem? (i := 7) rfl)) rfl, by decide +kernel, by decide⟩
theorem iX6_wall : Cond.instanceMethod yX6_wall ∈ zTb := zTb_of (tb_5 _ (List.mem_of_getElem? (i := 58) rfl)) rfl
theorem eX6_wall : Cond.selects yX6_wall.cls yX6_wall yX6_wall ∈ zTb := zTb_of (tb_5 _ (List.mem_of_getElem? (i := 59) rfl)) rfl
abbrev mX6_mayPen : zM := (yX6_mayPen, cX6_mayPen, 2, (some .boolean))
theorem oX6_mayPen : zOk mX6_mayPen 1 := ⟨zTb_of (tb_5 _ (List.mem_of_getElem? (i := 81) rfl)) rfl, zTb_of (tb_1 _ (List.mem_of_getElem? (i := 7) rfl)) rfl, by decide +kernel, by decide⟩
theorem iX6_mayPen : Cond.instanceMethod yX6_mayPen ∈ zTb := zTb_of (tb_5 _ (List.mem_of_getElem? (i := 80) rfl)) rfl
theorem eX6_mayPen : Cond.selects yX6_mayPen.cls yX6_mayPen yX6_mayPen ∈ zTb := zTb_of (List.mem_append_left _ (List.mem_map.mpr ⟨_, List.mem_of_getElem? (i := 42) rfl, rfl⟩)) rfl
abbrev mX6_pen : zM := (yX6_pen, cX6_pen, 3, (some .int))
theorem oX6_pen : zOk mX6_pen 1 := ⟨zTb_of (tb_5 _ (List.mem_of_getElem? (i := 77) rfl)) rfl, zTb_of (tb_1 _ (List.mem_of_getElem? (i := 7) rfl)) rfl, by decide +kernel, by decide⟩
theorem iX6_pen : Cond.instanceMethod yX6_pen ∈ zTb := zTb_of (tb_5 _ (List.mem_of_getElem? (i := 75) rfl)) rfl
theorem eX6_pen : Cond.selects yX6_pen.cls yX6_pen yX6_pen ∈ zTb := zTb_of (tb_5 _ (List.mem_of_getElem? (i := 76) rfl)) rfl
abbrev mX6_mayDog : zM := (yX6_mayDog, cX6_mayDog, 2, (some .boolean))
theorem oX6_mayDog : zOk mX6_mayDog 1 := ⟨zTb_of (tb_5 _ (List.mem_of_getElem? (i := 93) rfl)) rfl, zTb_of (tb_1 _ (List.mem_of_getElem? (i := 7) rfl)) rfl, by decide +kernel, by decide⟩
theorem iX6_mayDog : Cond.instanceMethod yX6_mayDog ∈ zTb := zTb_of (tb_5 _ (List.mem_of_getElem? (i := 92) rfl)) rfl
theorem eX6_mayDog : Cond.selects yX6_mayDog.cls yX6_mayDog yX6_mayDog ∈ zTb := zTb_of (List.mem_append_left _ (List.mem_map.mpr ⟨_, List.mem_of_getElem? (i := 44) rfl, rfl⟩)) rfl
abbrev mX6_dog : zM := (yX6_dog, cX6_dog, 3, (some .int))
theorem oX6_dog : zOk mX6_dog 1 := ⟨zTb_of (tb_5 _ (List.mem_of_getElem? (i := 89) rfl)) rfl, zTb_of (tb_1 _ (List.mem_of_getElem? (i := 7) rfl)) rfl, by decide +kernel, by decide⟩
theorem iX6_dog : Cond.instanceMethod yX6_dog ∈ zTb := zTb_of (tb_5 _ (List.mem_of_getElem? (i := 87) rfl)) rfl
theorem eX6_dog : Cond.selects yX6_dog.cls yX6_dog yX6_dog ∈ zTb := zTb_of (tb_5 _ (List.mem_of_getElem? (i := 88) rfl)) rfl
abbrev mX6_newEwe : zM := (yX6_newEwe, cX6_newEwe, 4, (some .int))
theorem oX6_newEwe : zOk mX6_newEwe 3 := ⟨zTb_of (tb_5 _ (List.mem_of_getElem? (i := 101) rfl)) rfl, zTb_of (tb_1 _ (List.mem_of_getElem? (i := 7) rfl)) rfl, by decide +kernel, by decide⟩
theorem iX6_newEwe : Cond.instanceMethod yX6_newEwe ∈ zTb := zTb_of (tb_5 _ (List.mem_of_getElem? (i := 100) rfl)) rfl
theorem eX6_newEwe : Cond.selects yX6_newEwe.cls yX6_newEwe yX6_newEwe ∈ zTb := zTb_of (List.mem_append_left _ (List.mem_map.mpr ⟨_, List.mem_of_getElem? (i := 45) rfl, rfl⟩)) rfl
abbrev mX6_ewe : zM := (yX6_ewe, cX6_ewe, 4, (some .int))
theorem oX6_ewe : zOk mX6_ewe 3 := ⟨zTb_of (tb_5 _ (List.mem_of_getElem? (i := 97) rfl)) rfl, zTb_of (tb_1 _ (List.mem_of_getElem? (i := 7) rfl)) rfl, by decide +kernel, by decide⟩
theorem iX6_ewe : Cond.instanceMethod yX6_ewe ∈ zTb := zTb_of (tb_5 _ (List.mem_of_getElem? (i := 95) rfl)) rfl
theorem eX6_ewe : Cond.selects yX6_ewe.cls yX6_ewe yX6_ewe ∈ zTb := zTb_of (tb_5 _ (List.mem_of_getElem? (i := 96) rfl)) rfl
abbrev mX6_move : zM := (yX6_move, cX6_move, 4, (some .int))
theorem oX6_move : zOk mX6_move 2 := ⟨zTb_of (tb_5 _ (List.mem_of_getElem? (i := 105) rfl)) rfl, zTb_of (tb_1 _ (List.mem_of_getElem? (i := 7) rfl)) rfl, by decide +kernel, by decide⟩
theorem iX6_move : Cond.instanceMethod yX6_move ∈ zTb := zTb_of (tb_5 _ (List.mem_of_getElem? (i := 103) rfl)) rfl
theorem eX6_move : Cond.selects yX6_move.cls yX6_move yX6_move ∈ zTb := zTb_of (tb_5 _ (List.mem_of_getElem? (i := 104) rfl)) rfl
abbrev mX6_wind : zM := (yX6_wind, cX6_wind, 3, (some .int))
theorem oX6_wind : zOk mX6_wind 1 := ⟨zTb_of (tb_5 _ (List.mem_of_getElem? (i := 109) rfl)) rfl, zTb_of (tb_1 _ (List.mem_of_getElem? (i := 7) rfl)) rfl, by decide +kernel, by decide⟩
theorem iX6_wind : Cond.instanceMethod yX6_wind ∈ zTb := zTb_of (tb_5 _ (List.mem_of_getElem? (i := 107) rfl)) rfl
theorem eX6_wind : Cond.selects yX6_wind.cls yX6_wind yX6_wind ∈ zTb := zTb_of (tb_5 _ (List.mem_of_getElem? (i := 108) rfl)) rfl
abbrev mX6_feed : zM := (yX6_feed, cX6_feed, 2, (some .int))
theorem oX6_feed : zOk mX6_feed 1 := ⟨zTb_of (tb_5 _ (List.mem_of_getElem? (i := 113) rfl)) rfl, zTb_of (tb_1 _ (List.mem_of_getElem? (i := 7) rfl)) rfl, by decide +kernel, by decide⟩
theorem iX6_feed : Cond.instanceMethod yX6_feed ∈ zTb := zTb_of (tb_5 _ (List.mem_of_getElem? (i := 111) rfl)) rfl
theorem eX6_feed : Cond.selects yX6_feed.cls yX6_feed yX6_feed ∈ zTb := zTb_of (tb_5 _ (List.mem_of_getElem? (i := 112) rfl)) rfl
abbrev mX6_wipe : zM := (yX6_wipe, cX6_wipe, 2, (some .int))
theorem oX6_wipe : zOk mX6_wipe 0 := ⟨zTb_of (tb_5 _ (List.mem_of_getElem? (i := 117) rfl)) rfl, zTb_of (tb_1 _ (List.mem_of_getElem? (i := 7) rfl)) rfl, by decide +kernel, by decide⟩
theorem iX6_wipe : Cond.instanceMethod yX6_wipe ∈ zTb := zTb_of (tb_5 _ (List.mem_of_getElem? (i := 115) rfl)) rfl
theorem eX6_wipe : Cond.selects yX6_wipe.cls yX6_wipe yX6_wipe ∈ zTb := zTb_of (tb_5 _ (List.mem_of_getElem? (i := 116) rfl)) rfl
abbrev mX6_isLetter : zM := (yX6_isLetter, cX6_isLetter, 1, (some .boolean))
theorem oX6_isLetter : zOk mX6_isLetter 1 := ⟨zTb_of (tb_5 _ (List.mem_of_getElem? (i := 132) rfl)) rfl, zTb_of (tb_1 _ (List.mem_of_getElem? (i := 7) rfl)) rfl, by decide +kernel, by decide⟩
theorem sX6_isLetter : Cond.static yX6_isLetter ∈ zTb := zTb_of (tb_5 _ (List.mem_of_getElem? (i := 131) rfl)) rfl
abbrev mX6_isDigit : zM := (yX6_isDigit, cX6_isDigit, 1, (some .boolean))
theorem oX6_isDigit : zOk mX6_isDigit 1 := ⟨zTb_of (tb_5 _ (List.mem_of_getElem? (i := 135) rfl)) rfl, zTb_of (tb_1 _ (List.mem_of_getElem? (i := 7) rfl)) rfl, by decide +kernel, by decide⟩
theorem sX6_isDigit : Cond.static yX6_isDigit ∈ zTb := zTb_of (tb_5 _ (List.mem_of_getElem? (i := 134) rfl)) rfl
abbrev mX6_next : zM := (yX6_next, cX6_next, 2, none)
theorem oX6_next : zOk mX6_next 0 := ⟨zTb_of (tb_5 _ (List.mem_of_getElem? (i := 129) rfl)) rfl, zTb_of (tb_1 _ (List.mem_of_getElem? (i := 7) rfl)) rfl, by decide +kernel, by decide⟩
theorem iX6_next : Cond.instanceMethod yX6_next ∈ zTb := zTb_of (tb_5 _ (List.mem_of_getElem? (i := 128) rfl)) rfl
theorem eX6_next : Cond.selects yX6_next.cls yX6_next yX6_next ∈ zTb := zTb_of (List.mem_append_left _ (List.mem_map.mpr ⟨_, List.mem_of_getElem? (i := 47) rfl, rfl⟩)) rfl
abbrev mX6_isWord : zM := (yX6_isWord, cX6_isWord, 3, (some .boolean))
theorem oX6_isWord : zOk mX6_isWord 1 := ⟨zTb_of (tb_5 _ (List.mem_of_getElem? (i := 144) rfl)) rfl, zTb_of (tb_1 _ (List.mem_of_getElem? (i := 7) rfl)) rfl, by decide +kernel, by decide⟩
theorem iX6_isWord : Cond.instanceMethod yX6_isWord ∈ zTb := zTb_of (tb_5 _ (List.mem_of_getElem? (i := 143) rfl)) rfl
theorem eX6_isWord : Cond.selects yX6_isWord.cls yX6_isWord yX6_isWord ∈ zTb := zTb_of (List.mem_append_left _ (List.mem_map.mpr ⟨_, List.mem_of_getElem? (i := 49) rfl, rfl⟩)) rfl
abbrev mX6_number : zM := (yX6_number, cX6_number, 3, (some .int))
theorem oX6_number : zOk mX6_number 2 := ⟨zTb_of (tb_5 _ (List.mem_of_getElem? (i := 150) rfl)) rfl, zTb_of (tb_1 _ (List.mem_of_getElem? (i := 7) rfl)) rfl, by decide +kernel, by decide⟩
theorem iX6_number : Cond.instanceMethod yX6_number ∈ zTb := zTb_of (tb_5 _ (List.mem_of_getElem? (i := 149) rfl)) rfl
theorem eX6_number : Cond.selects yX6_number.cls yX6_number yX6_number ∈ zTb := zTb_of (List.mem_append_left _ (List.mem_map.mpr ⟨_, List.mem_of_getElem? (i := 50) rfl, rfl⟩)) rfl
abbrev mX6_place : zM := (yX6_place, cX6_place, 2, (some .int))
theorem oX6_place : zOk mX6_place 0 := ⟨zTb_of (tb_5 _ (List.mem_of_getElem? (i := 155) rfl)) rfl, zTb_of (tb_1 _ (List.mem_of_getElem? (i := 7) rfl)) rfl, by decide +kernel, by decide⟩
theorem iX6_place : Cond.instanceMethod yX6_place ∈ zTb := zTb_of (tb_5 _ (List.mem_of_getElem? (i := 154) rfl)) rfl
theorem eX6_place : Cond.selects yX6_place.cls yX6_place yX6_place ∈ zTb := zTb_of (List.mem_append_left _ (List.mem_map.mpr ⟨_, List.mem_of_getElem? (i := 51) rfl, rfl⟩)) rfl
abbrev mX6_statement : zM := (yX6_statement, cX6_statement, 4, (some .boolean))
theorem oX6_statement : zOk mX6_statement 0 := ⟨zTb_of (tb_5 _ (List.mem_of_getElem? (i := 139) rfl)) rfl, zTb_of (tb_1 _ (List.mem_of_getElem? (i := 7) rfl)) rfl, by decide +kernel, by decide⟩
theorem iX6_statement : Cond.instanceMethod yX6_statement ∈ zTb := zTb_of (tb_5 _ (List.mem_of_getElem? (i := 138) rfl)) rfl
theorem eX6_statement : Cond.selects yX6_statement.cls yX6_statement yX6_statement ∈ zTb := zTb_of (List.mem_append_left _ (List.mem_map.mpr ⟨_, List.mem_of_getElem? (i := 48) rfl, rfl⟩)) rfl
abbrev mX6_keep : zM := (yX6_keep, cX6_keep, 3, none)
theorem oX6_keep : zOk mX6_keep 1 := ⟨zTb_of (tb_5 _ (List.mem_of_getElem? (i := 125) rfl)) rfl, zTb_of (tb_1 _ (List.mem_of_getElem? (i := 7) rfl)) rfl, by decide +kernel, by decide⟩
theorem iX6_keep : Cond.instanceMethod yX6_keep ∈ zTb := zTb_of (tb_5 _ (List.mem_of_getElem? (i := 124) rfl)) rfl
theorem eX6_keep : Cond.selects yX6_keep.cls yX6_keep yX6_keep ∈ zTb := zTb_of (List.mem_append_left _ (List.mem_map.mpr ⟨_, List.mem_of_getElem? (i := 46) rfl, rfl⟩)) rfl
abbrev mX6_keepBack : zM := (yX6_keepBack, cX6_keepBack, 3, none)
theorem oX6_keepBack : zOk mX6_keepBack 1 := ⟨zTb_of (tb_5 _ (List.mem_of_getElem? (i := 164) rfl)) rfl, zTb_of (tb_1 _ (List.mem_of_getElem? (i := 7) rfl)) rfl, by decide +kernel, by decide⟩
theorem iX6_keepBack : Cond.instanceMethod yX6_keepBack ∈ zTb := zTb_of (tb_5 _ (List.mem_of_getElem? (i := 163) rfl)) rfl
theorem eX6_keepBack : Cond.selects yX6_keepBack.cls yX6_keepBack yX6_keepBack ∈ zTb := zTb_of (List.mem_append_left _ (List.mem_map.mpr ⟨_, List.mem_of_getElem? (i := 52) rfl, rfl⟩)) rfl
abbrev mX6_hill : zM := (yX6_hill, cX6_hill, 3, (some .int))
theorem oX6_hill : zOk mX6_hill 0 := ⟨zTb_of (tb_5 _ (List.mem_of_getElem? (i := 121) rfl)) rfl, zTb_of (tb_1 _ (List.mem_of_getElem? (i := 7) rfl)) rfl, by decide +kernel, by decide⟩
theorem iX6_hill : Cond.instanceMethod yX6_hill ∈ zTb := zTb_of (tb_5 _ (List.mem_of_getElem? (i := 119) rfl)) rfl
theorem eX6_hill : Cond.selects yX6_hill.cls yX6_hill yX6_hill ∈ zTb := zTb_of (tb_5 _ (List.mem_of_getElem? (i := 120) rfl)) rfl
abbrev mX6_eweOf : zM := (yX6_eweOf, cX6_eweOf, 3, (some .int))
theorem oX6_eweOf : zOk mX6_eweOf 2 := ⟨zTb_of (tb_5 _ (List.mem_of_getElem? (i := 168) rfl)) rfl, zTb_of (tb_1 _ (List.mem_of_getElem? (i := 7) rfl)) rfl, by decide +kernel, by decide⟩
theorem iX6_eweOf : Cond.instanceMethod yX6_eweOf ∈ zTb := zTb_of (tb_5 _ (List.mem_of_getElem? (i := 166) rfl)) rfl
theorem eX6_eweOf : Cond.selects yX6_eweOf.cls yX6_eweOf yX6_eweOf ∈ zTb := zTb_of (tb_5 _ (List.mem_of_getElem? (i := 167) rfl)) rfl
abbrev mX6_hasWall : zM := (yX6_hasWall, cX6_hasWall, 2, (some .int))
theorem oX6_hasWall : zOk mX6_hasWall 1 := ⟨zTb_of (tb_5 _ (List.mem_of_getElem? (i := 172) rfl)) rfl, zTb_of (tb_1 _ (List.mem_of_getElem? (i := 7) rfl)) rfl, by decide +kernel, by decide⟩
theorem iX6_hasWall : Cond.instanceMethod yX6_hasWall ∈ zTb := zTb_of (tb_5 _ (List.mem_of_getElem? (i := 170) rfl)) rfl
theorem eX6_hasWall : Cond.selects yX6_hasWall.cls yX6_hasWall yX6_hasWall ∈ zTb := zTb_of (tb_5 _ (List.mem_of_getElem? (i := 171) rfl)) rfl
abbrev mX6_can : zM := (yX6_can, cX6_can, 2, (some .boolean))
theorem oX6_can : zOk mX6_can 1 := ⟨zTb_of (tb_5 _ (List.mem_of_getElem? (i := 184) rfl)) rfl, zTb_of (tb_1 _ (List.mem_of_getElem? (i := 7) rfl)) rfl, by decide +kernel, by decide⟩
theorem iX6_can : Cond.instanceMethod yX6_can ∈ zTb := zTb_of (tb_5 _ (List.mem_of_getElem? (i := 183) rfl)) rfl
theorem eX6_can : Cond.selects yX6_can.cls yX6_can yX6_can ∈ zTb := zTb_of (List.mem_append_left _ (List.mem_map.mpr ⟨_, List.mem_of_getElem? (i := 54) rfl, rfl⟩)) rfl
abbrev mX6_goes : zM := (yX6_goes, cX6_goes, 3, none)
theorem oX6_goes : zOk mX6_goes 1 := ⟨zTb_of (tb_5 _ (List.mem_of_getElem? (i := 188) rfl)) rfl, zTb_of (tb_1 _ (List.mem_of_getElem? (i := 7) rfl)) rfl, by decide +kernel, by decide⟩
theorem iX6_goes : Cond.instanceMethod yX6_goes ∈ zTb := zTb_of (tb_5 _ (List.mem_of_getElem? (i := 187) rfl)) rfl
theorem eX6_goes : Cond.selects yX6_goes.cls yX6_goes yX6_goes ∈ zTb := zTb_of (List.mem_append_left _ (List.mem_map.mpr ⟨_, List.mem_of_getElem? (i := 55) rfl, rfl⟩)) rfl
abbrev mX6_brings : zM := (yX6_brings, cX6_brings, 5, (some .boolean))
theorem oX6_brings : zOk mX6_brings 2 := ⟨zTb_of (tb_5 _ (List.mem_of_getElem? (i := 180) rfl)) rfl, zTb_of (tb_1 _ (List.mem_of_getElem? (i := 7) rfl)) rfl, by decide +kernel, by decide⟩
theorem iX6_brings : Cond.instanceMethod yX6_brings ∈ zTb := zTb_of (tb_5 _ (List.mem_of_getElem? (i := 179) rfl)) rfl
theorem eX6_brings : Cond.selects yX6_brings.cls yX6_brings yX6_brings ∈ zTb := zTb_of (List.mem_append_left _ (List.mem_map.mpr ⟨_, List.mem_of_getElem? (i := 53) rfl, rfl⟩)) rfl
abbrev mX6_fewest : zM := (yX6_fewest, cX6_fewest, 4, (some .int))
theorem oX6_fewest : zOk mX6_fewest 2 := ⟨zTb_of (tb_5 _ (List.mem_of_getElem? (i := 176) rfl)) rfl, zTb_of (tb_1 _ (List.mem_of_getElem? (i := 7) rfl)) rfl, by decide +kernel, by decide⟩
theorem iX6_fewest : Cond.instanceMethod yX6_fewest ∈ zTb := zTb_of (tb_5 _ (List.mem_of_getElem? (i := 174) rfl)) rfl
theorem eX6_fewest : Cond.selects yX6_fewest.cls yX6_fewest yX6_fewest ∈ zTb := zTb_of (tb_5 _ (List.mem_of_getElem? (i := 175) rfl)) rfl
abbrev mX6_seeks : zM := (yX6_seeks, cX6_seeks, 4, none)
theorem oX6_seeks : zOk mX6_seeks 2 := ⟨zTb_of (tb_5 _ (List.mem_of_getElem? (i := 196) rfl)) rfl, zTb_of (tb_1 _ (List.mem_of_getElem? (i := 7) rfl)) rfl, by decide +kernel, by decide⟩
theorem iX6_seeks : Cond.instanceMethod yX6_seeks ∈ zTb := zTb_of (tb_5 _ (List.mem_of_getElem? (i := 195) rfl)) rfl
theorem eX6_seeks : Cond.selects yX6_seeks.cls yX6_seeks yX6_seeks ∈ zTb := zTb_of (List.mem_append_left _ (List.mem_map.mpr ⟨_, List.mem_of_getElem? (i := 56) rfl, rfl⟩)) rfl
abbrev mX6_most : zM := (yX6_most, cX6_most, 3, (some .int))
theorem oX6_most : zOk mX6_most 2 := ⟨zTb_of (tb_5 _ (List.mem_of_getElem? (i := 192) rfl)) rfl, zTb_of (tb_1 _ (List.mem_of_getElem? (i := 7) rfl)) rfl, by decide +kernel, by decide⟩
theorem iX6_most : Cond.instanceMethod yX6_most ∈ zTb := zTb_of (tb_5 _ (List.mem_of_getElem? (i := 190) rfl)) rfl
theorem eX6_most : Cond.selects yX6_most.cls yX6_most yX6_most ∈ zTb := zTb_of (tb_5 _ (List.mem_of_getElem? (i := 191) rfl)) rfl
abbrev mX6_allSteps : zM := (yX6_allSteps, cX6_allSteps, 3, (some .int))
theorem oX6_allSteps : zOk mX6_allSteps 0 := ⟨zTb_of (tb_5 _ (List.mem_of_getElem? (i := 204) rfl)) rfl, zTb_of (tb_1 _ (List.mem_of_getElem? (i := 7) rfl)) rfl, by decide +kernel, by decide⟩
theorem iX6_allSteps : Cond.instanceMethod yX6_allSteps ∈ zTb := zTb_of (tb_5 _ (List.mem_of_getElem? (i := 203) rfl)) rfl
theorem eX6_allSteps : Cond.selects yX6_allSteps.cls yX6_allSteps yX6_allSteps ∈ zTb := zTb_of (List.mem_append_left _ (List.mem_map.mpr ⟨_, List.mem_of_getElem? (i := 57) rfl, rfl⟩)) rfl
abbrev mX6_stand : zM := (yX6_stand, cX6_stand, 5, (some .int))
theorem oX6_stand : zOk mX6_stand 0 := ⟨zTb_of (tb_5 _ (List.mem_of_getElem? (i := 200) rfl)) rfl, zTb_of (tb_1 _ (List.mem_of_getElem? (i := 7) rfl)) rfl, by decide +kernel, by decide⟩
theorem iX6_stand : Cond.instanceMethod yX6_stand ∈ zTb := zTb_of (tb_5 _ (List.mem_of_getElem? (i := 198) rfl)) rfl
theorem eX6_stand : Cond.selects yX6_stand.cls yX6_stand yX6_stand ∈ zTb := zTb_of (tb_5 _ (List.mem_of_getElem? (i := 199) rfl)) rfl
abbrev mX6_noTold : zM := (yX6_noTold, cX6_noTold, 3, (some .int))
theorem oX6_noTold : zOk mX6_noTold 2 := ⟨zTb_of (tb_5 _ (List.mem_of_getElem? (i := 212) rfl)) rfl, zTb_of (tb_1 _ (List.mem_of_getElem? (i := 7) rfl)) rfl, by decide +kernel, by decide⟩
theorem iX6_noTold : Cond.instanceMethod yX6_noTold ∈ zTb := zTb_of (tb_5 _ (List.mem_of_getElem? (i := 211) rfl)) rfl
theorem eX6_noTold : Cond.selects yX6_noTold.cls yX6_noTold yX6_noTold ∈ zTb := zTb_of (List.mem_append_left _ (List.mem_map.mpr ⟨_, List.mem_of_getElem? (i := 58) rfl, rfl⟩)) rfl
abbrev mX6_toldAt : zM := (yX6_toldAt, cX6_toldAt, 3, (some .long))
theorem oX6_toldAt : zOk mX6_toldAt 2 := ⟨zTb_of (tb_5 _ (List.mem_of_getElem? (i := 216) rfl)) rfl, zTb_of (tb_1 _ (List.mem_of_getElem? (i := 7) rfl)) rfl, by decide +kernel, by decide⟩
theorem iX6_toldAt : Cond.instanceMethod yX6_toldAt ∈ zTb := zTb_of (tb_5 _ (List.mem_of_getElem? (i := 215) rfl)) rfl
theorem eX6_toldAt : Cond.selects yX6_toldAt.cls yX6_toldAt yX6_toldAt ∈ zTb := zTb_of (List.mem_append_left _ (List.mem_map.mpr ⟨_, List.mem_of_getElem? (i := 59) rfl, rfl⟩)) rfl
abbrev mX6_odds : zM := (yX6_odds, cX6_odds, 13, (some .int))
theorem oX6_odds : zOk mX6_odds 2 := ⟨zTb_of (tb_5 _ (List.mem_of_getElem? (i := 208) rfl)) rfl, zTb_of (tb_1 _ (List.mem_of_getElem? (i := 7) rfl)) rfl, by decide +kernel, by decide⟩
theorem iX6_odds : Cond.instanceMethod yX6_odds ∈ zTb := zTb_of (tb_5 _ (List.mem_of_getElem? (i := 206) rfl)) rfl
theorem eX6_odds : Cond.selects yX6_odds.cls yX6_odds yX6_odds ∈ zTb := zTb_of (tb_5 _ (List.mem_of_getElem? (i := 207) rfl)) rfl
abbrev mX6_apart : zM := (yX6_apart, cX6_apart, 4, (some .int))
theorem oX6_apart : zOk mX6_apart 0 := ⟨zTb_of (tb_5 _ (List.mem_of_getElem? (i := 227) rfl)) rfl, zTb_of (tb_1 _ (List.mem_of_getElem? (i := 7) rfl)) rfl, by decide +kernel, by decide⟩
theorem iX6_apart : Cond.instanceMethod yX6_apart ∈ zTb := zTb_of (tb_5 _ (List.mem_of_getElem? (i := 226) rfl)) rfl
theorem eX6_apart : Cond.selects yX6_apart.cls yX6_apart yX6_apart ∈ zTb := zTb_of (List.mem_append_left _ (List.mem_map.mpr ⟨_, List.mem_of_getElem? (i := 60) rfl, rfl⟩)) rfl
abbrev mX6_flock : zM := (yX6_flock, cX6_flock, 4, (some .int))
theorem oX6_flock : zOk mX6_flock 0 := ⟨zTb_of (tb_5 _ (List.mem_of_getElem? (i := 232) rfl)) rfl, zTb_of (tb_1 _ (List.mem_of_getElem? (i := 7) rfl)) rfl, by decide +kernel, by decide⟩
theorem iX6_flock : Cond.instanceMethod yX6_flock ∈ zTb := zTb_of (tb_5 _ (List.mem_of_getElem? (i := 231) rfl)) rfl
theorem eX6_flock : Cond.selects yX6_flock.cls yX6_flock yX6_flock ∈ zTb := zTb_of (List.mem_append_left _ (List.mem_map.mpr ⟨_, List.mem_of_getElem? (i := 61) rfl, rfl⟩)) rfl
abbrev mX6_nearest : zM := (yX6_nearest, cX6_nearest, 3, (some .int))
theorem oX6_nearest : zOk mX6_nearest 0 := ⟨zTb_of (tb_5 _ (List.mem_of_getElem? (i := 236) rfl)) rfl, zTb_of (tb_1 _ (List.mem_of_getElem? (i := 7) rfl)) rfl, by decide +kernel, by decide⟩
theorem iX6_nearest : Cond.instanceMethod yX6_nearest ∈ zTb := zTb_of (tb_5 _ (List.mem_of_getElem? (i := 235) rfl)) rfl
theorem eX6_nearest : Cond.selects yX6_nearest.cls yX6_nearest yX6_nearest ∈ zTb := zTb_of (List.mem_append_left _ (List.mem_map.mpr ⟨_, List.mem_of_getElem? (i := 62) rfl, rfl⟩)) rfl
abbrev mX6_moved : zM := (yX6_moved, cX6_moved, 3, (some .int))
theorem oX6_moved : zOk mX6_moved 0 := ⟨zTb_of (tb_6 _ (List.mem_of_getElem? (i := 0) rfl)) rfl, zTb_of (tb_1 _ (List.mem_of_getElem? (i := 7) rfl)) rfl, by decide +kernel, by decide⟩
theorem iX6_moved : Cond.instanceMethod yX6_moved ∈ zTb := zTb_of (tb_5 _ (List.mem_of_getElem? (i := 239) rfl)) rfl
theorem eX6_moved : Cond.selects yX6_moved.cls yX6_moved yX6_moved ∈ zTb := zTb_of (List.mem_append_left _ (List.mem_map.mpr ⟨_, List.mem_of_getElem? (i := 63) rfl, rfl⟩)) rfl
abbrev mX6_ewes : zM := (yX6_ewes, cX6_ewes, 2, (some .int))
theorem oX6_ewes : zOk mX6_ewes 1 := ⟨zTb_of (tb_5 _ (List.mem_of_getElem? (i := 223) rfl)) rfl, zTb_of (tb_1 _ (List.mem_of_getElem? (i := 7) rfl)) rfl, by decide +kernel, by decide⟩
theorem iX6_ewes : Cond.instanceMethod yX6_ewes ∈ zTb := zTb_of (tb_5 _ (List.mem_of_getElem? (i := 221) rfl)) rfl
theorem eX6_ewes : Cond.selects yX6_ewes.cls yX6_ewes yX6_ewes ∈ zTb := zTb_of (tb_5 _ (List.mem_of_getElem? (i := 222) rfl)) rfl
abbrev mX6_walks : zM := (yX6_walks, cX6_walks, 5, none)
theorem oX6_walks : zOk mX6_walks 0 := ⟨zTb_of (tb_6 _ (List.mem_of_getElem? (i := 8) rfl)) rfl, zTb_of (tb_1 _ (List.mem_of_getElem? (i := 7) rfl)) rfl, by decide +kernel, by decide⟩
theorem iX6_walks : Cond.instanceMethod yX6_walks ∈ zTb := zTb_of (tb_6 _ (List.mem_of_getElem? (i := 7) rfl)) rfl
theorem eX6_walks : Cond.selects yX6_walks.cls yX6_walks yX6_walks ∈ zTb := zTb_of (List.mem_append_left _ (List.mem_map.mpr ⟨_, List.mem_of_getElem? (i := 64) rfl, rfl⟩)) rfl
abbrev mX6_path : zM := (yX6_path, cX6_path, 2, (some .int))
theorem oX6_path : zOk mX6_path 1 := ⟨zTb_of (tb_6 _ (List.mem_of_getElem? (i := 4) rfl)) rfl, zTb_of (tb_1 _ (List.mem_of_getElem? (i := 7) rfl)) rfl, by decide +kernel, by decide⟩
theorem iX6_path : Cond.instanceMethod yX6_path ∈ zTb := zTb_of (tb_6 _ (List.mem_of_getElem? (i := 2) rfl)) rfl
theorem eX6_path : Cond.selects yX6_path.cls yX6_path yX6_path ∈ zTb := zTb_of (tb_6 _ (List.mem_of_getElem? (i := 3) rfl)) rfl
abbrev mX6_reach : zM := (yX6_reach, cX6_reach, 4, (some .int))
theorem oX6_reach : zOk mX6_reach 1 := ⟨zTb_of (tb_6 _ (List.mem_of_getElem? (i := 12) rfl)) rfl, zTb_of (tb_1 _ (List.mem_of_getElem? (i := 7) rfl)) rfl, by decide +kernel, by decide⟩
theorem iX6_reach : Cond.instanceMethod yX6_reach ∈ zTb := zTb_of (tb_6 _ (List.mem_of_getElem? (i := 10) rfl)) rfl
theorem eX6_reach : Cond.selects yX6_reach.cls yX6_reach yX6_reach ∈ zTb := zTb_of (tb_6 _ (List.mem_of_getElem? (i := 11) rfl)) rfl
abbrev mX6_rows : zM := (yX6_rows, cX6_rows, 5, (some .int))
theorem oX6_rows : zOk mX6_rows 1 := ⟨zTb_of (tb_6 _ (List.mem_of_getElem? (i := 20) rfl)) rfl, zTb_of (tb_1 _ (List.mem_of_getElem? (i := 7) rfl)) rfl, by decide +kernel, by decide⟩
theorem iX6_rows : Cond.instanceMethod yX6_rows ∈ zTb := zTb_of (tb_6 _ (List.mem_of_getElem? (i := 19) rfl)) rfl
theorem eX6_rows : Cond.selects yX6_rows.cls yX6_rows yX6_rows ∈ zTb := zTb_of (List.mem_append_left _ (List.mem_map.mpr ⟨_, List.mem_of_getElem? (i := 65) rfl, rfl⟩)) rfl
abbrev mX6_ways : zM := (yX6_ways, cX6_ways, 2, (some .int))
theorem oX6_ways : zOk mX6_ways 1 := ⟨zTb_of (tb_6 _ (List.mem_of_getElem? (i := 16) rfl)) rfl, zTb_of (tb_1 _ (List.mem_of_getElem? (i := 7) rfl)) rfl, by decide +kernel, by decide⟩
theorem iX6_ways : Cond.instanceMethod yX6_ways ∈ zTb := zTb_of (tb_6 _ (List.mem_of_getElem? (i := 14) rfl)) rfl
theorem eX6_ways : Cond.selects yX6_ways.cls yX6_ways yX6_ways ∈ zTb := zTb_of (tb_6 _ (List.mem_of_getElem? (i := 15) rfl)) rfl
abbrev mX6_open : zM := (yX6_open, cX6_open, 4, (some .int))
theorem oX6_open : zOk mX6_open 1 := ⟨zTb_of (tb_6 _ (List.mem_of_getElem? (i := 24) rfl)) rfl, zTb_of (tb_1 _ (List.mem_of_getElem? (i := 7) rfl)) rfl, by decide +kernel, by decide⟩
theorem iX6_open : Cond.instanceMethod yX6_open ∈ zTb := zTb_of (tb_6 _ (List.mem_of_getElem? (i := 22) rfl)) rfl
theorem eX6_open : Cond.selects yX6_open.cls yX6_open yX6_open ∈ zTb := zTb_of (tb_6 _ (List.mem_of_getElem? (i := 23) rfl)) rfl
abbrev mX6_still : zM := (yX6_still, cX6_still, 7, (some .int))
theorem oX6_still : zOk mX6_still 1 := ⟨zTb_of (tb_6 _ (List.mem_of_getElem? (i := 28) rfl)) rfl, zTb_of (tb_1 _ (List.mem_of_getElem? (i := 7) rfl)) rfl, by decide +kernel, by decide⟩
theorem iX6_still : Cond.instanceMethod yX6_still ∈ zTb := zTb_of (tb_6 _ (List.mem_of_getElem? (i := 26) rfl)) rfl
theorem eX6_still : Cond.selects yX6_still.cls yX6_still yX6_still ∈ zTb := zTb_of (tb_6 _ (List.mem_of_getElem? (i := 27) rfl)) rfl
abbrev mX6_held : zM := (yX6_held, cX6_held, 4, (some .int))
theorem oX6_held : zOk mX6_held 0 := ⟨zTb_of (tb_6 _ (List.mem_of_getElem? (i := 33) rfl)) rfl, zTb_of (tb_1 _ (List.mem_of_getElem? (i := 7) rfl)) rfl, by decide +kernel, by decide⟩
theorem iX6_held : Cond.instanceMethod yX6_held ∈ zTb := zTb_of (tb_6 _ (List.mem_of_getElem? (i := 31) rfl)) rfl
theorem eX6_held : Cond.selects yX6_held.cls yX6_held yX6_held ∈ zTb := zTb_of (tb_6 _ (List.mem_of_getElem? (i := 32) rfl)) rfl
abbrev mX6_grazing : zM := (yX6_grazing, cX6_grazing, 3, (some .int))
theorem oX6_grazing : zOk mX6_grazing 0 := ⟨zTb_of (tb_6 _ (List.mem_of_getElem? (i := 37) rfl)) rfl, zTb_of (tb_1 _ (List.mem_of_getElem? (i := 7) rfl)) rfl, by decide +kernel, by decide⟩
theorem iX6_grazing : Cond.instanceMethod yX6_grazing ∈ zTb := zTb_of (tb_6 _ (List.mem_of_getElem? (i := 35) rfl)) rfl
theorem eX6_grazing : Cond.selects yX6_grazing.cls yX6_grazing yX6_grazing ∈ zTb := zTb_of (tb_6 _ (List.mem_of_getElem? (i := 36) rfl)) rfl
abbrev mX6_shy : zM := (yX6_shy, cX6_shy, 4, (some .int))
theorem oX6_shy : zOk mX6_shy 1 := ⟨zTb_of (tb_6 _ (List.mem_of_getElem? (i := 41) rfl)) rfl, zTb_of (tb_1 _ (List.mem_of_getElem? (i := 7) rfl)) rfl, by decide +kernel, by decide⟩
theorem iX6_shy : Cond.instanceMethod yX6_shy ∈ zTb := zTb_of (tb_6 _ (List.mem_of_getElem? (i := 39) rfl)) rfl
theorem eX6_shy : Cond.selects yX6_shy.cls yX6_shy yX6_shy ∈ zTb := zTb_of (tb_6 _ (List.mem_of_getElem? (i := 40) rfl)) rfl
abbrev mX6_bare : zM := (yX6_bare, cX6_bare, 6, (some .int))
theorem oX6_bare : zOk mX6_bare 0 := ⟨zTb_of (tb_6 _ (List.mem_of_getElem? (i := 45) rfl)) rfl, zTb_of (tb_1 _ (List.mem_of_getElem? (i := 7) rfl)) rfl, by decide +kernel, by decide⟩
theorem iX6_bare : Cond.instanceMethod yX6_bare ∈ zTb := zTb_of (tb_6 _ (List.mem_of_getElem? (i := 43) rfl)) rfl
theorem eX6_bare : Cond.selects yX6_bare.cls yX6_bare yX6_bare ∈ zTb := zTb_of (tb_6 _ (List.mem_of_getElem? (i := 44) rfl)) rfl
abbrev mX6_late : zM := (yX6_late, cX6_late, 6, (some .int))
theorem oX6_late : zOk mX6_late 3 := ⟨zTb_of (tb_6 _ (List.mem_of_getElem? (i := 49) rfl)) rfl, zTb_of (tb_1 _ (List.mem_of_getElem? (i := 7) rfl)) rfl, by decide +kernel, by decide⟩
theorem iX6_late : Cond.instanceMethod yX6_late ∈ zTb := zTb_of (tb_6 _ (List.mem_of_getElem? (i := 47) rfl)) rfl
theorem eX6_late : Cond.selects yX6_late.cls yX6_late yX6_late ∈ zTb := zTb_of (tb_6 _ (List.mem_of_getElem? (i := 48) rfl)) rfl
abbrev mX6_last : zM := (yX6_last, cX6_last, 3, (some .int))
theorem oX6_last : zOk mX6_last 0 := ⟨zTb_of (tb_6 _ (List.mem_of_getElem? (i := 53) rfl)) rfl, zTb_of (tb_1 _ (List.mem_of_getElem? (i := 7) rfl)) rfl, by decide +kernel, by decide⟩
theorem iX6_last : Cond.instanceMethod yX6_last ∈ zTb := zTb_of (tb_6 _ (List.mem_of_getElem? (i := 51) rfl)) rfl
theorem eX6_last : Cond.selects yX6_last.cls yX6_last yX6_last ∈ zTb := zTb_of (tb_6 _ (List.mem_of_getElem? (i := 52) rfl)) rfl
abbrev mX6_near : zM := (yX6_near, cX6_near, 5, (some .int))
theorem oX6_near : zOk mX6_near 2 := ⟨zTb_of (tb_6 _ (List.mem_of_getElem? (i := 57) rfl)) rfl, zTb_of (tb_1 _ (List.mem_of_getElem? (i := 7) rfl)) rfl, by decide +kernel, by decide⟩
theorem iX6_near : Cond.instanceMethod yX6_near ∈ zTb := zTb_of (tb_6 _ (List.mem_of_getElem? (i := 55) rfl)) rfl
theorem eX6_near : Cond.selects yX6_near.cls yX6_near yX6_near ∈ zTb := zTb_of (tb_6 _ (List.mem_of_getElem? (i := 56) rfl)) rfl
abbrev mX6_steps_ : zM := (yX6_steps_, cX6_steps_, 1, (some .int))
theorem oX6_steps_ : zOk mX6_steps_ 0 := ⟨zTb_of (tb_6 _ (List.mem_of_getElem? (i := 61) rfl)) rfl, zTb_of (tb_1 _ (List.mem_of_getElem? (i := 7) rfl)) rfl, by decide +kernel, by decide⟩
theorem iX6_steps_ : Cond.instanceMethod yX6_steps_ ∈ zTb := zTb_of (tb_6 _ (List.mem_of_getElem? (i := 59) rfl)) rfl
theorem eX6_steps_ : Cond.selects yX6_steps_.cls yX6_steps_ yX6_steps_ ∈ zTb := zTb_of (tb_6 _ (List.mem_of_getElem? (i := 60) rfl)) rfl
abbrev mX6_best : zM := (yX6_best, cX6_best, 5, (some .int))
theorem oX6_best : zOk mX6_best 0 := ⟨zTb_of (tb_6 _ (List.mem_of_getElem? (i := 65) rfl)) rfl, zTb_of (tb_1 _ (List.mem_of_getElem? (i := 7) rfl)) rfl, by decide +kernel, by decide⟩
theorem iX6_best : Cond.instanceMethod yX6_best ∈ zTb := zTb_of (tb_6 _ (List.mem_of_getElem? (i := 63) rfl)) rfl
theorem eX6_best : Cond.selects yX6_best.cls yX6_best yX6_best ∈ zTb := zTb_of (tb_6 _ (List.mem_of_getElem? (i := 64) rfl)) rfl
abbrev mX6_isSo : zM := (yX6_isSo, cX6_isSo, 6, (some .boolean))
theorem oX6_isSo : zOk mX6_isSo 4 := ⟨zTb_of (tb_6 _ (List.mem_of_getElem? (i := 73) rfl)) rfl, zTb_of (tb_1 _ (List.mem_of_getElem? (i := 7) rfl)) rfl, by decide +kernel, by decide⟩
theorem iX6_isSo : Cond.instanceMethod yX6_isSo ∈ zTb := zTb_of (tb_6 _ (List.mem_of_getElem? (i := 72) rfl)) rfl
theorem eX6_isSo : Cond.selects yX6_isSo.cls yX6_isSo yX6_isSo ∈ zTb := zTb_of (List.mem_append_left _ (List.mem_map.mpr ⟨_, List.mem_of_getElem? (i := 66) rfl, rfl⟩)) rfl
abbrev mX6_kinds : zM := (yX6_kinds, cX6_kinds, 9, (some .int))
theorem oX6_kinds : zOk mX6_kinds 4 := ⟨zTb_of (tb_6 _ (List.mem_of_getElem? (i := 69) rfl)) rfl, zTb_of (tb_1 _ (List.mem_of_getElem? (i := 7) rfl)) rfl, by decide +kernel, by decide⟩
theorem iX6_kinds : Cond.instanceMethod yX6_kinds ∈ zTb := zTb_of (tb_6 _ (List.mem_of_getElem? (i := 67) rfl)) rfl
theorem eX6_kinds : Cond.selects yX6_kinds.cls yX6_kinds yX6_kinds ∈ zTb := zTb_of (tb_6 _ (List.mem_of_getElem? (i := 68) rfl)) rfl
abbrev mX6_doneAll : zM := (yX6_doneAll, cX6_doneAll, 4, (some .int))
theorem oX6_doneAll : zOk mX6_doneAll 2 := ⟨zTb_of (tb_6 _ (List.mem_of_getElem? (i := 81) rfl)) rfl, zTb_of (tb_1 _ (List.mem_of_getElem? (i := 7) rfl)) rfl, by decide +kernel, by decide⟩
theorem iX6_doneAll : Cond.instanceMethod yX6_doneAll ∈ zTb := zTb_of (tb_6 _ (List.mem_of_getElem? (i := 80) rfl)) rfl
theorem eX6_doneAll : Cond.selects yX6_doneAll.cls yX6_doneAll yX6_doneAll ∈ zTb := zTb_of (List.mem_append_left _ (List.mem_map.mpr ⟨_, List.mem_of_getElem? (i := 67) rfl, rfl⟩)) rfl
abbrev mX6_judge : zM := (yX6_judge, cX6_judge, 5, (some .int))
theorem oX6_judge : zOk mX6_judge 2 := ⟨zTb_of (tb_6 _ (List.mem_of_getElem? (i := 77) rfl)) rfl, zTb_of (tb_1 _ (List.mem_of_getElem? (i := 7) rfl)) rfl, by decide +kernel, by decide⟩
theorem iX6_judge : Cond.instanceMethod yX6_judge ∈ zTb := zTb_of (tb_6 _ (List.mem_of_getElem? (i := 75) rfl)) rfl
theorem eX6_judge : Cond.selects yX6_judge.cls yX6_judge yX6_judge ∈ zTb := zTb_of (tb_6 _ (List.mem_of_getElem? (i := 76) rfl)) rfl
abbrev mX6_behind : zM := (yX6_behind, cX6_behind, 7, (some .int))
theorem oX6_behind : zOk mX6_behind 3 := ⟨zTb_of (tb_6 _ (List.mem_of_getElem? (i := 85) rfl)) rfl, zTb_of (tb_1 _ (List.mem_of_getElem? (i := 7) rfl)) rfl, by decide +kernel, by decide⟩
theorem iX6_behind : Cond.instanceMethod yX6_behind ∈ zTb := zTb_of (tb_6 _ (List.mem_of_getElem? (i := 83) rfl)) rfl
theorem eX6_behind : Cond.selects yX6_behind.cls yX6_behind yX6_behind ∈ zTb := zTb_of (tb_6 _ (List.mem_of_getElem? (i := 84) rfl)) rfl
abbrev mX6_done : zM := (yX6_done, cX6_done, 4, (some .int))
theorem oX6_done : zOk mX6_done 2 := ⟨zTb_of (tb_6 _ (List.mem_of_getElem? (i := 89) rfl)) rfl, zTb_of (tb_1 _ (List.mem_of_getElem? (i := 7) rfl)) rfl, by decide +kernel, by decide⟩
theorem iX6_done : Cond.instanceMethod yX6_done ∈ zTb := zTb_of (tb_6 _ (List.mem_of_getElem? (i := 87) rfl)) rfl
theorem eX6_done : Cond.selects yX6_done.cls yX6_done yX6_done ∈ zTb := zTb_of (tb_6 _ (List.mem_of_getElem? (i := 88) rfl)) rfl
abbrev mX6_turn : zM := (yX6_turn, cX6_turn, 2, (some .int))
theorem oX6_turn : zOk mX6_turn 1 := ⟨zTb_of (tb_6 _ (List.mem_of_getElem? (i := 93) rfl)) rfl, zTb_of (tb_1 _ (List.mem_of_getElem? (i := 7) rfl)) rfl, by decide +kernel, by decide⟩
theorem iX6_turn : Cond.instanceMethod yX6_turn ∈ zTb := zTb_of (tb_6 _ (List.mem_of_getElem? (i := 91) rfl)) rfl
theorem eX6_turn : Cond.selects yX6_turn.cls yX6_turn yX6_turn ∈ zTb := zTb_of (tb_6 _ (List.mem_of_getElem? (i := 92) rfl)) rfl
abbrev mX6_draw : zM := (yX6_draw, cX6_draw, 2, (some .int))
theorem oX6_draw : zOk mX6_draw 1 := ⟨zTb_of (tb_6 _ (List.mem_of_getElem? (i := 101) rfl)) rfl, zTb_of (tb_1 _ (List.mem_of_getElem? (i := 7) rfl)) rfl, by decide +kernel, by decide⟩
theorem iX6_draw : Cond.instanceMethod yX6_draw ∈ zTb := zTb_of (tb_6 _ (List.mem_of_getElem? (i := 100) rfl)) rfl
theorem eX6_draw : Cond.selects yX6_draw.cls yX6_draw yX6_draw ∈ zTb := zTb_of (List.mem_append_left _ (List.mem_map.mpr ⟨_, List.mem_of_getElem? (i := 68) rfl, rfl⟩)) rfl
abbrev mX6_evening : zM := (yX6_evening, cX6_evening, 5, (some .int))
theorem oX6_evening : zOk mX6_evening 1 := ⟨zTb_of (tb_6 _ (List.mem_of_getElem? (i := 97) rfl)) rfl, zTb_of (tb_1 _ (List.mem_of_getElem? (i := 7) rfl)) rfl, by decide +kernel, by decide⟩
theorem iX6_evening : Cond.instanceMethod yX6_evening ∈ zTb := zTb_of (tb_6 _ (List.mem_of_getElem? (i := 95) rfl)) rfl
theorem eX6_evening : Cond.selects yX6_evening.cls yX6_evening yX6_evening ∈ zTb := zTb_of (tb_6 _ (List.mem_of_getElem? (i := 96) rfl)) rfl
abbrev mX6_seed : zM := (yX6_seed, cX6_seed, 3, (some .int))
theorem oX6_seed : zOk mX6_seed 1 := ⟨zTb_of (tb_6 _ (List.mem_of_getElem? (i := 106) rfl)) rfl, zTb_of (tb_1 _ (List.mem_of_getElem? (i := 7) rfl)) rfl, by decide +kernel, by decide⟩
theorem iX6_seed : Cond.instanceMethod yX6_seed ∈ zTb := zTb_of (tb_6 _ (List.mem_of_getElem? (i := 104) rfl)) rfl
theorem eX6_seed : Cond.selects yX6_seed.cls yX6_seed yX6_seed ∈ zTb := zTb_of (tb_6 _ (List.mem_of_getElem? (i := 105) rfl)) rfl
abbrev mX6_image : zM := (yX6_image, cX6_image, 1, (some .int))
theorem oX6_image : zOk mX6_image 0 := ⟨zTb_of (tb_6 _ (List.mem_of_getElem? (i := 110) rfl)) rfl, zTb_of (tb_1 _ (List.mem_of_getElem? (i := 7) rfl)) rfl, by decide +kernel, by decide⟩
theorem iX6_image : Cond.instanceMethod yX6_image ∈ zTb := zTb_of (tb_6 _ (List.mem_of_getElem? (i := 108) rfl)) rfl
theorem eX6_image : Cond.selects yX6_image.cls yX6_image yX6_image ∈ zTb := zTb_of (tb_6 _ (List.mem_of_getElem? (i := 109) rfl)) rfl
abbrev mX6_back : zM := (yX6_back, cX6_back, 2, (some .int))
theorem oX6_back : zOk mX6_back 0 := ⟨zTb_of (tb_6 _ (List.mem_of_getElem? (i := 114) rfl)) rfl, zTb_of (tb_1 _ (List.mem_of_getElem? (i := 7) rfl)) rfl, by decide +kernel, by decide⟩
theorem iX6_back : Cond.instanceMethod yX6_back ∈ zTb := zTb_of (tb_6 _ (List.mem_of_getElem? (i := 112) rfl)) rfl
theorem eX6_back : Cond.selects yX6_back.cls yX6_back yX6_back ∈ zTb := zTb_of (tb_6 _ (List.mem_of_getElem? (i := 113) rfl)) rfl
abbrev mX6_allWalls : zM := (yX6_allWalls, cX6_allWalls, 3, (some .int))
theorem oX6_allWalls : zOk mX6_allWalls 0 := ⟨zTb_of (tb_6 _ (List.mem_of_getElem? (i := 122) rfl)) rfl, zTb_of (tb_1 _ (List.mem_of_getElem? (i := 7) rfl)) rfl, by decide +kernel, by decide⟩
theorem iX6_allWalls : Cond.instanceMethod yX6_allWalls ∈ zTb := zTb_of (tb_6 _ (List.mem_of_getElem? (i := 121) rfl)) rfl
theorem eX6_allWalls : Cond.selects yX6_allWalls.cls yX6_allWalls yX6_allWalls ∈ zTb := zTb_of (List.mem_append_left _ (List.mem_map.mpr ⟨_, List.mem_of_getElem? (i := 69) rfl, rfl⟩)) rfl
abbrev mX6_status : zM := (yX6_status, cX6_status, 4, (some .int))
theorem oX6_status : zOk mX6_status 1 := ⟨zTb_of (tb_6 _ (List.mem_of_getElem? (i := 118) rfl)) rfl, zTb_of (tb_1 _ (List.mem_of_getElem? (i := 7) rfl)) rfl, by decide +kernel, by decide⟩
theorem iX6_status : Cond.instanceMethod yX6_status ∈ zTb := zTb_of (tb_6 _ (List.mem_of_getElem? (i := 116) rfl)) rfl
theorem eX6_status : Cond.selects yX6_status.cls yX6_status yX6_status ∈ zTb := zTb_of (tb_6 _ (List.mem_of_getElem? (i := 117) rfl)) rfl
abbrev mJ9_abs_0f7a4 : zM := (yJ9_abs_0f7a4, cJ9_abs_0f7a4, 1, (some .int))
theorem oJ9_abs_0f7a4 : zOk mJ9_abs_0f7a4 1 := ⟨zTb_of (tb_2 _ (List.mem_of_getElem? (i := 67) rfl)) rfl, zTb_of (tb_1 _ (List.mem_of_getElem? (i := 10) rfl)) rfl, by decide +kernel, by decide⟩
theorem sJ9_abs_0f7a4 : Cond.static yJ9_abs_0f7a4 ∈ zTb := zTb_of (tb_2 _ (List.mem_of_getElem? (i := 66) rfl)) rfl
abbrev mJ9_max_7cf53 : zM := (yJ9_max_7cf53, cJ9_max_7cf53, 2, (some .int))
theorem oJ9_max_7cf53 : zOk mJ9_max_7cf53 2 := ⟨zTb_of (tb_3 _ (List.mem_of_getElem? (i := 119) rfl)) rfl, zTb_of (tb_1 _ (List.mem_of_getElem? (i := 10) rfl)) rfl, by decide +kernel, by decide⟩
theorem sJ9_max_7cf53 : Cond.static yJ9_max_7cf53 ∈ zTb := zTb_of (tb_3 _ (List.mem_of_getElem? (i := 118) rfl)) rfl
theorem lkX5_9 : Cond.methodLink RX5 9 yX0_init ∈ zTb := zTb_of (tb_1 _ (List.mem_of_getElem? (i := 27) rfl)) rfl
theorem lkX5_25 : Cond.methodLink RX5 25 yX4_init ∈ zTb := zTb_of (tb_1 _ (List.mem_of_getElem? (i := 106) rfl)) rfl
theorem lkX5_36 : Cond.methodLink RX5 36 yX2_init ∈ zTb := zTb_of (tb_1 _ (List.mem_of_getElem? (i := 137) rfl)) rfl
theorem lkX5_43 : Cond.methodLink RX5 43 yX3_init ∈ zTb := zTb_of (tb_1 _ (List.mem_of_getElem? (i := 156) rfl)) rfl
theorem lkX5_50 : Cond.methodLink RX5 50 yX1_init ∈ zTb := zTb_of (tb_1 _ (List.mem_of_getElem? (i := 159) rfl)) rfl
theorem lkX5_55 : Cond.methodLink RX5 55 yX5_isShelf ∈ zTb := zTb_of (tb_1 _ (List.mem_of_getElem? (i := 218) rfl)) rfl
theorem lkX5_59 : Cond.methodLink RX5 59 yX5_refuse ∈ zTb := zTb_of (tb_1 _ (List.mem_of_getElem? (i := 221) rfl)) rfl
theorem lkX5_63 : Cond.methodLink RX5 63 yX2_takeRow ∈ zTb := zTb_of (tb_1 _ (List.mem_of_getElem? (i := 225) rfl)) rfl
theorem lkX5_67 : Cond.methodLink RX5 67 yX5_faultOfRow ∈ zTb := zTb_of (tb_1 _ (List.mem_of_getElem? (i := 236) rfl)) rfl
theorem lkX5_82 : Cond.methodLink RX5 82 yX5_cutTo ∈ zTb := zTb_of (tb_2 _ (List.mem_of_getElem? (i := 8) rfl)) rfl
theorem lkX5_86 : Cond.methodLink RX5 86 yX2_hasRow ∈ zTb := zTb_of (tb_2 _ (List.mem_of_getElem? (i := 4) rfl)) rfl
theorem lkX5_90 : Cond.methodLink RX5 90 yX2_hasEwe ∈ zTb := zTb_of (tb_2 _ (List.mem_of_getElem? (i := 0) rfl)) rfl
theorem lkX5_93 : Cond.methodLink RX5 93 yX2_hasPart ∈ zTb := zTb_of (tb_2 _ (List.mem_of_getElem? (i := 15) rfl)) rfl
theorem lkX5_97 : Cond.methodLink RX5 97 arraycopyName ∈ zTb := zTb_of (tb_2 _ (List.mem_of_getElem? (i := 19) rfl)) rfl
theorem lkX5_103 : Cond.methodLink RX5 103 yX0_isEwe ∈ zTb := zTb_of (tb_2 _ (List.mem_of_getElem? (i := 34) rfl)) rfl
theorem lkX5_106 : Cond.methodLink RX5 106 yX5_isKind ∈ zTb := zTb_of (tb_2 _ (List.mem_of_getElem? (i := 42) rfl)) rfl
theorem lkX5_112 : Cond.methodLink RX5 112 yX5_isUnder ∈ zTb := zTb_of (tb_2 _ (List.mem_of_getElem? (i := 45) rfl)) rfl
theorem lkX5_121 : Cond.methodLink RX5 121 yX0_goalOf ∈ zTb := zTb_of (tb_2 _ (List.mem_of_getElem? (i := 50) rfl)) rfl
theorem lkX5_128 : Cond.methodLink RX5 128 yX0_isCell ∈ zTb := zTb_of (tb_2 _ (List.mem_of_getElem? (i := 95) rfl)) rfl
theorem lkX5_131 : Cond.methodLink RX5 131 yX0_mayBeWall ∈ zTb := zTb_of (tb_2 _ (List.mem_of_getElem? (i := 96) rfl)) rfl
theorem lkX5_134 : Cond.methodLink RX5 134 yX0_isWall ∈ zTb := zTb_of (tb_2 _ (List.mem_of_getElem? (i := 104) rfl)) rfl
theorem lkX5_137 : Cond.methodLink RX5 137 yX0_setWall ∈ zTb := zTb_of (tb_2 _ (List.mem_of_getElem? (i := 108) rfl)) rfl
theorem lkX5_141 : Cond.methodLink RX5 141 yX0_mayBePen ∈ zTb := zTb_of (tb_2 _ (List.mem_of_getElem? (i := 117) rfl)) rfl
theorem lkX5_147 : Cond.methodLink RX5 147 yX0_mayBeDogs ∈ zTb := zTb_of (tb_2 _ (List.mem_of_getElem? (i := 125) rfl)) rfl
theorem lkX5_153 : Cond.methodLink RX5 153 yX0_isOpen ∈ zTb := zTb_of (tb_2 _ (List.mem_of_getElem? (i := 133) rfl)) rfl
theorem lkX5_159 : Cond.methodLink RX5 159 yX0_addEwe ∈ zTb := zTb_of (tb_2 _ (List.mem_of_getElem? (i := 134) rfl)) rfl
theorem lkX5_172 : Cond.methodLink RX5 172 yX4_readOnto ∈ zTb := zTb_of (tb_2 _ (List.mem_of_getElem? (i := 158) rfl)) rfl
theorem lkX5_179 : Cond.methodLink RX5 179 yX0_setTo ∈ zTb := zTb_of (tb_3 _ (List.mem_of_getElem? (i := 46) rfl)) rfl
theorem lkX5_183 : Cond.methodLink RX5 183 yX5_stepsBetween ∈ zTb := zTb_of (tb_3 _ (List.mem_of_getElem? (i := 52) rfl)) rfl
theorem lkX5_191 : Cond.methodLink RX5 191 yX3_setTo ∈ zTb := zTb_of (tb_3 _ (List.mem_of_getElem? (i := 61) rfl)) rfl
theorem lkX5_211 : Cond.methodLink RX5 211 yX0_takeTurn ∈ zTb := zTb_of (tb_3 _ (List.mem_of_getElem? (i := 104) rfl)) rfl
theorem lkX5_215 : Cond.methodLink RX5 215 yX0_stepsToPen ∈ zTb := zTb_of (tb_3 _ (List.mem_of_getElem? (i := 105) rfl)) rfl
theorem lkX5_219 : Cond.methodLink RX5 219 yX0_wouldGo ∈ zTb := zTb_of (tb_3 _ (List.mem_of_getElem? (i := 113) rfl)) rfl
theorem lkX5_223 : Cond.methodLink RX5 223 yJ9_max_7cf53 ∈ zTb := zTb_of (tb_3 _ (List.mem_of_getElem? (i := 117) rfl)) rfl
theorem lkX5_228 : Cond.methodLink RX5 228 yX5_faultOfCommands ∈ zTb := zTb_of (tb_3 _ (List.mem_of_getElem? (i := 124) rfl)) rfl
theorem lkX5_231 : Cond.methodLink RX5 231 yX5_takeTold ∈ zTb := zTb_of (tb_3 _ (List.mem_of_getElem? (i := 132) rfl)) rfl
theorem lkX5_235 : Cond.methodLink RX5 235 yX0_countIn ∈ zTb := zTb_of (tb_3 _ (List.mem_of_getElem? (i := 136) rfl)) rfl
theorem lkX5_242 : Cond.methodLink RX5 242 yX0_eweBits ∈ zTb := zTb_of (tb_3 _ (List.mem_of_getElem? (i := 141) rfl)) rfl
theorem lkX5_246 : Cond.methodLink RX5 246 yX0_rowBits ∈ zTb := zTb_of (tb_3 _ (List.mem_of_getElem? (i := 145) rfl)) rfl
theorem lkX5_250 : Cond.methodLink RX5 250 yX0_columnBits ∈ zTb := zTb_of (tb_3 _ (List.mem_of_getElem? (i := 149) rfl)) rfl
theorem lkX5_255 : Cond.methodLink RX5 255 yX5_weightIfAllIn ∈ zTb := zTb_of (tb_3 _ (List.mem_of_getElem? (i := 158) rfl)) rfl
theorem lkX5_261 : Cond.methodLink RX5 261 yX0_apart ∈ zTb := zTb_of (tb_3 _ (List.mem_of_getElem? (i := 167) rfl)) rfl
theorem lkX5_264 : Cond.methodLink RX5 264 yX0_flock ∈ zTb := zTb_of (tb_3 _ (List.mem_of_getElem? (i := 180) rfl)) rfl
theorem lkX5_268 : Cond.methodLink RX5 268 yX0_nearest ∈ zTb := zTb_of (tb_3 _ (List.mem_of_getElem? (i := 184) rfl)) rfl
theorem lkX5_271 : Cond.methodLink RX5 271 yX0_moved ∈ zTb := zTb_of (tb_3 _ (List.mem_of_getElem? (i := 188) rfl)) rfl
theorem lkX5_274 : Cond.methodLink RX5 274 yX5_bitOf ∈ zTb := zTb_of (tb_3 _ (List.mem_of_getElem? (i := 197) rfl)) rfl
theorem lkX5_277 : Cond.methodLink RX5 277 yX0_dogsGround ∈ zTb := zTb_of (tb_3 _ (List.mem_of_getElem? (i := 198) rfl)) rfl
theorem lkX5_280 : Cond.methodLink RX5 280 yX0_spread ∈ zTb := zTb_of (tb_3 _ (List.mem_of_getElem? (i := 202) rfl)) rfl
theorem lkX5_284 : Cond.methodLink RX5 284 yJ13_bitCount_95d88 ∈ zTb := zTb_of (tb_3 _ (List.mem_of_getElem? (i := 209) rfl)) rfl
theorem lkX5_290 : Cond.methodLink RX5 290 yX1_countRows ∈ zTb := zTb_of (tb_3 _ (List.mem_of_getElem? (i := 219) rfl)) rfl
theorem lkX5_297 : Cond.methodLink RX5 297 yJ6_bitCount_0f7a4 ∈ zTb := zTb_of (tb_4 _ (List.mem_of_getElem? (i := 0) rfl)) rfl
theorem lkX5_301 : Cond.methodLink RX5 301 yX0_notIn ∈ zTb := zTb_of (tb_4 _ (List.mem_of_getElem? (i := 10) rfl)) rfl
theorem lkX5_304 : Cond.methodLink RX5 304 yX5_grazing ∈ zTb := zTb_of (tb_4 _ (List.mem_of_getElem? (i := 14) rfl)) rfl
theorem lkX5_307 : Cond.methodLink RX5 307 yX0_isIn ∈ zTb := zTb_of (tb_4 _ (List.mem_of_getElem? (i := 18) rfl)) rfl
theorem lkX5_310 : Cond.methodLink RX5 310 yX0_canDo ∈ zTb := zTb_of (tb_4 _ (List.mem_of_getElem? (i := 36) rfl)) rfl
theorem lkX5_313 : Cond.methodLink RX5 313 yX5_areCells ∈ zTb := zTb_of (tb_4 _ (List.mem_of_getElem? (i := 41) rfl)) rfl
theorem lkX5_317 : Cond.methodLink RX5 317 yX5_goesSo ∈ zTb := zTb_of (tb_4 _ (List.mem_of_getElem? (i := 46) rfl)) rfl
theorem lkX5_321 : Cond.methodLink RX5 321 yX5_firstWrong ∈ zTb := zTb_of (tb_4 _ (List.mem_of_getElem? (i := 54) rfl)) rfl
theorem lkX5_325 : Cond.methodLink RX5 325 yX5_faultOfDoable ∈ zTb := zTb_of (tb_4 _ (List.mem_of_getElem? (i := 62) rfl)) rfl
theorem lkX5_331 : Cond.methodLink RX5 331 yX5_isCommand ∈ zTb := zTb_of (tb_3 _ (List.mem_of_getElem? (i := 128) rfl)) rfl
theorem lkX5_335 : Cond.methodLink RX5 335 yX0_draw ∈ zTb := zTb_of (tb_4 _ (List.mem_of_getElem? (i := 78) rfl)) rfl
theorem lkX5_344 : Cond.methodLink RX5 344 yX5_countFilledShelves ∈ zTb := zTb_of (tb_4 _ (List.mem_of_getElem? (i := 99) rfl)) rfl
theorem lkX5_351 : Cond.methodLink RX5 351 yJ9_abs_0f7a4 ∈ zTb := zTb_of (tb_2 _ (List.mem_of_getElem? (i := 65) rfl)) rfl
theorem lkX0_43 : Cond.methodLink RX0 43 yX3_init ∈ zTb := zTb_of (tb_1 _ (List.mem_of_getElem? (i := 33) rfl)) rfl
theorem lkX0_48 : Cond.methodLink RX0 48 arraycopyName ∈ zTb := zTb_of (tb_2 _ (List.mem_of_getElem? (i := 166) rfl)) rfl
theorem lkX0_54 : Cond.methodLink RX0 54 yX3_setTo ∈ zTb := zTb_of (tb_2 _ (List.mem_of_getElem? (i := 167) rfl)) rfl
theorem lkX0_64 : Cond.methodLink RX0 64 yX0_isCell ∈ zTb := zTb_of (tb_2 _ (List.mem_of_getElem? (i := 80) rfl)) rfl
theorem lkX0_68 : Cond.methodLink RX0 68 yX0_isOpen ∈ zTb := zTb_of (tb_2 _ (List.mem_of_getElem? (i := 76) rfl)) rfl
theorem lkX0_74 : Cond.methodLink RX0 74 yX0_hasEweAt ∈ zTb := zTb_of (tb_2 _ (List.mem_of_getElem? (i := 100) rfl)) rfl
theorem lkX0_80 : Cond.methodLink RX0 80 yX0_countWithin ∈ zTb := zTb_of (tb_3 _ (List.mem_of_getElem? (i := 97) rfl)) rfl
theorem lkX0_94 : Cond.methodLink RX0 94 yX0_mayBeDogs ∈ zTb := zTb_of (tb_3 _ (List.mem_of_getElem? (i := 77) rfl)) rfl
theorem lkX0_97 : Cond.methodLink RX0 97 yX0_canDo ∈ zTb := zTb_of (tb_3 _ (List.mem_of_getElem? (i := 83) rfl)) rfl
theorem lkX0_104 : Cond.methodLink RX0 104 yX0_goalOf ∈ zTb := zTb_of (tb_3 _ (List.mem_of_getElem? (i := 84) rfl)) rfl
theorem lkX0_111 : Cond.methodLink RX0 111 yX0_leaderOf ∈ zTb := zTb_of (tb_2 _ (List.mem_of_getElem? (i := 56) rfl)) rfl
theorem lkX0_117 : Cond.methodLink RX0 117 yX0_nextFrom ∈ zTb := zTb_of (tb_2 _ (List.mem_of_getElem? (i := 70) rfl)) rfl
theorem lkX0_121 : Cond.methodLink RX0 121 yX0_wouldGo ∈ zTb := zTb_of (tb_3 _ (List.mem_of_getElem? (i := 192) rfl)) rfl
theorem lkX0_125 : Cond.methodLink RX0 125 yX0_isIn ∈ zTb := zTb_of (tb_3 _ (List.mem_of_getElem? (i := 171) rfl)) rfl
theorem lkX0_128 : Cond.methodLink RX0 128 yJ9_max_7cf53 ∈ zTb := zTb_of (tb_3 _ (List.mem_of_getElem? (i := 179) rfl)) rfl
theorem lkX0_133 : Cond.methodLink RX0 133 yX0_farthestFrom ∈ zTb := zTb_of (tb_3 _ (List.mem_of_getElem? (i := 175) rfl)) rfl
theorem lkX1_17 : Cond.methodLink RX1 17 yX3_init ∈ zTb := zTb_of (tb_1 _ (List.mem_of_getElem? (i := 165) rfl)) rfl
theorem lkX1_38 : Cond.methodLink RX1 38 yX0_canDo ∈ zTb := zTb_of (tb_3 _ (List.mem_of_getElem? (i := 73) rfl)) rfl
theorem lkX1_44 : Cond.methodLink RX1 44 yX3_setTo ∈ zTb := zTb_of (tb_3 _ (List.mem_of_getElem? (i := 78) rfl)) rfl
theorem lkX1_48 : Cond.methodLink RX1 48 yX0_takeTurn ∈ zTb := zTb_of (tb_3 _ (List.mem_of_getElem? (i := 79) rfl)) rfl
theorem lkX1_52 : Cond.methodLink RX1 52 yX0_countWithin ∈ zTb := zTb_of (tb_3 _ (List.mem_of_getElem? (i := 65) rfl)) rfl
theorem lkX1_59 : Cond.methodLink RX1 59 yX1_tryCommand ∈ zTb := zTb_of (tb_3 _ (List.mem_of_getElem? (i := 69) rfl)) rfl
theorem lkX1_63 : Cond.methodLink RX1 63 yX1_bringsAll ∈ zTb := zTb_of (tb_3 _ (List.mem_of_getElem? (i := 85) rfl)) rfl
theorem lkX1_67 : Cond.methodLink RX1 67 yX0_countIn ∈ zTb := zTb_of (tb_3 _ (List.mem_of_getElem? (i := 93) rfl)) rfl
theorem lkX1_71 : Cond.methodLink RX1 71 arraycopyName ∈ zTb := zTb_of (tb_3 _ (List.mem_of_getElem? (i := 98) rfl)) rfl
theorem lkX1_77 : Cond.methodLink RX1 77 yX1_seekMost ∈ zTb := zTb_of (tb_3 _ (List.mem_of_getElem? (i := 99) rfl)) rfl
theorem lkX1_85 : Cond.methodLink RX1 85 yJ7_fill_53178 ∈ zTb := zTb_of (tb_3 _ (List.mem_of_getElem? (i := 223) rfl)) rfl
theorem lkX1_91 : Cond.methodLink RX1 91 yX1_addRowsFrom ∈ zTb := zTb_of (tb_3 _ (List.mem_of_getElem? (i := 226) rfl)) rfl
theorem lkX2_22 : Cond.methodLink RX2 22 yJ7_fill_d0a16 ∈ zTb := zTb_of (tb_1 _ (List.mem_of_getElem? (i := 229) rfl)) rfl
theorem lkX3_22 : Cond.methodLink RX3 22 arraycopyName ∈ zTb := zTb_of (tb_2 _ (List.mem_of_getElem? (i := 171) rfl)) rfl
theorem lkX4_21 : Cond.methodLink RX4 21 yX0_init ∈ zTb := zTb_of (tb_1 _ (List.mem_of_getElem? (i := 111) rfl)) rfl
theorem lkX4_35 : Cond.methodLink RX4 35 yX0_setTo ∈ zTb := zTb_of (tb_2 _ (List.mem_of_getElem? (i := 162) rfl)) rfl
theorem lkX4_39 : Cond.methodLink RX4 39 yX4_nextToken ∈ zTb := zTb_of (tb_2 _ (List.mem_of_getElem? (i := 172) rfl)) rfl
theorem lkX4_42 : Cond.methodLink RX4 42 yX4_readStatement ∈ zTb := zTb_of (tb_2 _ (List.mem_of_getElem? (i := 183) rfl)) rfl
theorem lkX4_48 : Cond.methodLink RX4 48 yX4_isWord ∈ zTb := zTb_of (tb_2 _ (List.mem_of_getElem? (i := 188) rfl)) rfl
theorem lkX4_52 : Cond.methodLink RX4 52 yX4_readSide ∈ zTb := zTb_of (tb_3 _ (List.mem_of_getElem? (i := 0) rfl)) rfl
theorem lkX4_57 : Cond.methodLink RX4 57 yX4_readWall ∈ zTb := zTb_of (tb_3 _ (List.mem_of_getElem? (i := 9) rfl)) rfl
theorem lkX4_62 : Cond.methodLink RX4 62 yX4_readGap ∈ zTb := zTb_of (tb_3 _ (List.mem_of_getElem? (i := 16) rfl)) rfl
theorem lkX4_67 : Cond.methodLink RX4 67 yX4_readPen ∈ zTb := zTb_of (tb_3 _ (List.mem_of_getElem? (i := 22) rfl)) rfl
theorem lkX4_72 : Cond.methodLink RX4 72 yX4_readDog ∈ zTb := zTb_of (tb_3 _ (List.mem_of_getElem? (i := 28) rfl)) rfl
theorem lkX4_77 : Cond.methodLink RX4 77 yX4_readEwe ∈ zTb := zTb_of (tb_3 _ (List.mem_of_getElem? (i := 34) rfl)) rfl
theorem lkX4_82 : Cond.methodLink RX4 82 yX4_readWind ∈ zTb := zTb_of (tb_3 _ (List.mem_of_getElem? (i := 42) rfl)) rfl
theorem lkX4_85 : Cond.methodLink RX4 85 yX4_nextNumber ∈ zTb := zTb_of (tb_3 _ (List.mem_of_getElem? (i := 4) rfl)) rfl
theorem lkX4_91 : Cond.methodLink RX4 91 yX0_mayBeWall ∈ zTb := zTb_of (tb_3 _ (List.mem_of_getElem? (i := 13) rfl)) rfl
theorem lkX4_95 : Cond.methodLink RX4 95 yX0_setWall ∈ zTb := zTb_of (tb_3 _ (List.mem_of_getElem? (i := 14) rfl)) rfl
theorem lkX4_99 : Cond.methodLink RX4 99 yX0_isCell ∈ zTb := zTb_of (tb_3 _ (List.mem_of_getElem? (i := 20) rfl)) rfl
theorem lkX4_102 : Cond.methodLink RX4 102 yX0_mayBePen ∈ zTb := zTb_of (tb_3 _ (List.mem_of_getElem? (i := 26) rfl)) rfl
theorem lkX4_107 : Cond.methodLink RX4 107 yX0_mayBeDogs ∈ zTb := zTb_of (tb_3 _ (List.mem_of_getElem? (i := 32) rfl)) rfl
theorem lkX4_124 : Cond.methodLink RX4 124 yX0_isOpen ∈ zTb := zTb_of (tb_3 _ (List.mem_of_getElem? (i := 39) rfl)) rfl
theorem lkX4_127 : Cond.methodLink RX4 127 yX0_addEwe ∈ zTb := zTb_of (tb_3 _ (List.mem_of_getElem? (i := 40) rfl)) rfl
theorem lkX4_133 : Cond.methodLink RX4 133 yX4_byteAt ∈ zTb := zTb_of (tb_2 _ (List.mem_of_getElem? (i := 176) rfl)) rfl
theorem lkX4_137 : Cond.methodLink RX4 137 yJ0_length_8abf5 ∈ zTb := zTb_of (tb_2 _ (List.mem_of_getElem? (i := 192) rfl)) rfl
theorem lkX4_142 : Cond.methodLink RX4 142 yJ0_charAt_5068e ∈ zTb := zTb_of (tb_2 _ (List.mem_of_getElem? (i := 202) rfl)) rfl
theorem lkX4_146 : Cond.methodLink RX4 146 yX4_tokenOf ∈ zTb := zTb_of (tb_2 _ (List.mem_of_getElem? (i := 180) rfl)) rfl
theorem lkL_9 : Cond.methodLink RL 9 yX5_init ∈ zTb := zTb_of (tb_1 _ (List.mem_of_getElem? (i := 19) rfl)) rfl
theorem lkL_12 : Cond.methodLink RL 12 yX6_init ∈ zTb := zTb_of (tb_4 _ (List.mem_of_getElem? (i := 105) rfl)) rfl
theorem lkL_13 : Cond.methodLink RL 13 yX5_row ∈ zTb := zTb_of (tb_1 _ (List.mem_of_getElem? (i := 214) rfl)) rfl
theorem lkL_17 : Cond.methodLink RL 17 yX6_row ∈ zTb := zTb_of (tb_4 _ (List.mem_of_getElem? (i := 201) rfl)) rfl
theorem lkL_20 : Cond.methodLink RL 20 yX5_set ∈ zTb := zTb_of (tb_1 _ (List.mem_of_getElem? (i := 232) rfl)) rfl
theorem lkL_24 : Cond.methodLink RL 24 yX6_set ∈ zTb := zTb_of (tb_4 _ (List.mem_of_getElem? (i := 215) rfl)) rfl
theorem lkL_25 : Cond.methodLink RL 25 yX5_copy ∈ zTb := zTb_of (tb_2 _ (List.mem_of_getElem? (i := 11) rfl)) rfl
theorem lkL_29 : Cond.methodLink RL 29 yX6_copy ∈ zTb := zTb_of (tb_4 _ (List.mem_of_getElem? (i := 230) rfl)) rfl
theorem lkL_30 : Cond.methodLink RL 30 yX5_element ∈ zTb := zTb_of (tb_2 _ (List.mem_of_getElem? (i := 22) rfl)) rfl
theorem lkL_34 : Cond.methodLink RL 34 yX6_element ∈ zTb := zTb_of (tb_4 _ (List.mem_of_getElem? (i := 234) rfl)) rfl
theorem lkL_35 : Cond.methodLink RL 35 yX5_holds ∈ zTb := zTb_of (tb_2 _ (List.mem_of_getElem? (i := 26) rfl)) rfl
theorem lkL_39 : Cond.methodLink RL 39 yX6_holds ∈ zTb := zTb_of (tb_4 _ (List.mem_of_getElem? (i := 238) rfl)) rfl
theorem lkL_40 : Cond.methodLink RL 40 yX5_show ∈ zTb := zTb_of (tb_2 _ (List.mem_of_getElem? (i := 30) rfl)) rfl
theorem lkL_44 : Cond.methodLink RL 44 yX6_show ∈ zTb := zTb_of (tb_5 _ (List.mem_of_getElem? (i := 2) rfl)) rfl
theorem lkL_45 : Cond.methodLink RL 45 yX5_says ∈ zTb := zTb_of (tb_2 _ (List.mem_of_getElem? (i := 38) rfl)) rfl
theorem lkL_48 : Cond.methodLink RL 48 yX6_says ∈ zTb := zTb_of (tb_5 _ (List.mem_of_getElem? (i := 10) rfl)) rfl
theorem lkL_49 : Cond.methodLink RL 49 yX5_side ∈ zTb := zTb_of (tb_2 _ (List.mem_of_getElem? (i := 87) rfl)) rfl
theorem lkL_52 : Cond.methodLink RL 52 yX6_side ∈ zTb := zTb_of (tb_5 _ (List.mem_of_getElem? (i := 53) rfl)) rfl
theorem lkL_53 : Cond.methodLink RL 53 yX5_wall ∈ zTb := zTb_of (tb_2 _ (List.mem_of_getElem? (i := 91) rfl)) rfl
theorem lkL_57 : Cond.methodLink RL 57 yX6_wall ∈ zTb := zTb_of (tb_5 _ (List.mem_of_getElem? (i := 57) rfl)) rfl
theorem lkL_58 : Cond.methodLink RL 58 yX5_pen ∈ zTb := zTb_of (tb_2 _ (List.mem_of_getElem? (i := 113) rfl)) rfl
theorem lkL_61 : Cond.methodLink RL 61 yX6_pen ∈ zTb := zTb_of (tb_5 _ (List.mem_of_getElem? (i := 74) rfl)) rfl
theorem lkL_62 : Cond.methodLink RL 62 yX5_dog ∈ zTb := zTb_of (tb_2 _ (List.mem_of_getElem? (i := 121) rfl)) rfl
theorem lkL_65 : Cond.methodLink RL 65 yX6_dog ∈ zTb := zTb_of (tb_5 _ (List.mem_of_getElem? (i := 86) rfl)) rfl
theorem lkL_66 : Cond.methodLink RL 66 yX5_ewe ∈ zTb := zTb_of (tb_2 _ (List.mem_of_getElem? (i := 129) rfl)) rfl
theorem lkL_69 : Cond.methodLink RL 69 yX6_ewe ∈ zTb := zTb_of (tb_5 _ (List.mem_of_getElem? (i := 94) rfl)) rfl
theorem lkL_70 : Cond.methodLink RL 70 yX5_move ∈ zTb := zTb_of (tb_2 _ (List.mem_of_getElem? (i := 138) rfl)) rfl
theorem lkL_73 : Cond.methodLink RL 73 yX6_move ∈ zTb := zTb_of (tb_5 _ (List.mem_of_getElem? (i := 102) rfl)) rfl
theorem lkL_74 : Cond.methodLink RL 74 yX5_wind ∈ zTb := zTb_of (tb_2 _ (List.mem_of_getElem? (i := 142) rfl)) rfl
theorem lkL_77 : Cond.methodLink RL 77 yX6_wind ∈ zTb := zTb_of (tb_5 _ (List.mem_of_getElem? (i := 106) rfl)) rfl
theorem lkL_78 : Cond.methodLink RL 78 yX5_feed ∈ zTb := zTb_of (tb_2 _ (List.mem_of_getElem? (i := 146) rfl)) rfl
theorem lkL_81 : Cond.methodLink RL 81 yX6_feed ∈ zTb := zTb_of (tb_5 _ (List.mem_of_getElem? (i := 110) rfl)) rfl
theorem lkL_82 : Cond.methodLink RL 82 yX5_wipe ∈ zTb := zTb_of (tb_2 _ (List.mem_of_getElem? (i := 150) rfl)) rfl
theorem lkL_86 : Cond.methodLink RL 86 yX6_wipe ∈ zTb := zTb_of (tb_5 _ (List.mem_of_getElem? (i := 114) rfl)) rfl
theorem lkL_87 : Cond.methodLink RL 87 yX5_hill ∈ zTb := zTb_of (tb_2 _ (List.mem_of_getElem? (i := 154) rfl)) rfl
theorem lkL_90 : Cond.methodLink RL 90 yX6_hill ∈ zTb := zTb_of (tb_5 _ (List.mem_of_getElem? (i := 118) rfl)) rfl
theorem lkL_91 : Cond.methodLink RL 91 yX5_eweOf ∈ zTb := zTb_of (tb_3 _ (List.mem_of_getElem? (i := 48) rfl)) rfl
theorem lkL_94 : Cond.methodLink RL 94 yX6_eweOf ∈ zTb := zTb_of (tb_5 _ (List.mem_of_getElem? (i := 165) rfl)) rfl
theorem lkL_95 : Cond.methodLink RL 95 yX5_hasWall ∈ zTb := zTb_of (tb_3 _ (List.mem_of_getElem? (i := 53) rfl)) rfl
theorem lkL_98 : Cond.methodLink RL 98 yX6_hasWall ∈ zTb := zTb_of (tb_5 _ (List.mem_of_getElem? (i := 169) rfl)) rfl
theorem lkL_99 : Cond.methodLink RL 99 yX5_fewest ∈ zTb := zTb_of (tb_3 _ (List.mem_of_getElem? (i := 57) rfl)) rfl
theorem lkL_102 : Cond.methodLink RL 102 yX6_fewest ∈ zTb := zTb_of (tb_5 _ (List.mem_of_getElem? (i := 173) rfl)) rfl
theorem lkL_103 : Cond.methodLink RL 103 yX5_most ∈ zTb := zTb_of (tb_3 _ (List.mem_of_getElem? (i := 86) rfl)) rfl
theorem lkL_106 : Cond.methodLink RL 106 yX6_most ∈ zTb := zTb_of (tb_5 _ (List.mem_of_getElem? (i := 189) rfl)) rfl
theorem lkL_107 : Cond.methodLink RL 107 yX5_stand ∈ zTb := zTb_of (tb_3 _ (List.mem_of_getElem? (i := 100) rfl)) rfl
theorem lkL_110 : Cond.methodLink RL 110 yX6_stand ∈ zTb := zTb_of (tb_5 _ (List.mem_of_getElem? (i := 197) rfl)) rfl
theorem lkL_111 : Cond.methodLink RL 111 yX5_shy ∈ zTb := zTb_of (tb_3 _ (List.mem_of_getElem? (i := 109) rfl)) rfl
theorem lkL_114 : Cond.methodLink RL 114 yX6_shy ∈ zTb := zTb_of (tb_6 _ (List.mem_of_getElem? (i := 38) rfl)) rfl
theorem lkL_115 : Cond.methodLink RL 115 yX5_late ∈ zTb := zTb_of (tb_3 _ (List.mem_of_getElem? (i := 120) rfl)) rfl
theorem lkL_118 : Cond.methodLink RL 118 yX6_late ∈ zTb := zTb_of (tb_6 _ (List.mem_of_getElem? (i := 46) rfl)) rfl
theorem lkL_119 : Cond.methodLink RL 119 yX5_bare ∈ zTb := zTb_of (tb_3 _ (List.mem_of_getElem? (i := 137) rfl)) rfl
theorem lkL_122 : Cond.methodLink RL 122 yX6_bare ∈ zTb := zTb_of (tb_6 _ (List.mem_of_getElem? (i := 42) rfl)) rfl
theorem lkL_123 : Cond.methodLink RL 123 yX5_odds ∈ zTb := zTb_of (tb_3 _ (List.mem_of_getElem? (i := 153) rfl)) rfl
theorem lkL_126 : Cond.methodLink RL 126 yX6_odds ∈ zTb := zTb_of (tb_5 _ (List.mem_of_getElem? (i := 205) rfl)) rfl
theorem lkL_127 : Cond.methodLink RL 127 yX5_ewes ∈ zTb := zTb_of (tb_3 _ (List.mem_of_getElem? (i := 163) rfl)) rfl
theorem lkL_130 : Cond.methodLink RL 130 yX6_ewes ∈ zTb := zTb_of (tb_5 _ (List.mem_of_getElem? (i := 220) rfl)) rfl
theorem lkL_131 : Cond.methodLink RL 131 yX5_path ∈ zTb := zTb_of (tb_3 _ (List.mem_of_getElem? (i := 193) rfl)) rfl
theorem lkL_134 : Cond.methodLink RL 134 yX6_path ∈ zTb := zTb_of (tb_6 _ (List.mem_of_getElem? (i := 1) rfl)) rfl
theorem lkL_135 : Cond.methodLink RL 135 yX5_reach ∈ zTb := zTb_of (tb_3 _ (List.mem_of_getElem? (i := 205) rfl)) rfl
theorem lkL_138 : Cond.methodLink RL 138 yX6_reach ∈ zTb := zTb_of (tb_6 _ (List.mem_of_getElem? (i := 9) rfl)) rfl
theorem lkL_139 : Cond.methodLink RL 139 yX5_ways ∈ zTb := zTb_of (tb_3 _ (List.mem_of_getElem? (i := 215) rfl)) rfl
theorem lkL_142 : Cond.methodLink RL 142 yX6_ways ∈ zTb := zTb_of (tb_6 _ (List.mem_of_getElem? (i := 13) rfl)) rfl
theorem lkL_143 : Cond.methodLink RL 143 yX5_open ∈ zTb := zTb_of (tb_3 _ (List.mem_of_getElem? (i := 231) rfl)) rfl
theorem lkL_146 : Cond.methodLink RL 146 yX6_open ∈ zTb := zTb_of (tb_6 _ (List.mem_of_getElem? (i := 21) rfl)) rfl
theorem lkL_147 : Cond.methodLink RL 147 yX5_still ∈ zTb := zTb_of (tb_3 _ (List.mem_of_getElem? (i := 236) rfl)) rfl
theorem lkL_150 : Cond.methodLink RL 150 yX6_still ∈ zTb := zTb_of (tb_6 _ (List.mem_of_getElem? (i := 25) rfl)) rfl
theorem lkL_151 : Cond.methodLink RL 151 yX5_held ∈ zTb := zTb_of (tb_4 _ (List.mem_of_getElem? (i := 6) rfl)) rfl
theorem lkL_154 : Cond.methodLink RL 154 yX6_held ∈ zTb := zTb_of (tb_6 _ (List.mem_of_getElem? (i := 30) rfl)) rfl
theorem lkL_155 : Cond.methodLink RL 155 yX5_grazing ∈ zTb := zTb_of (tb_4 _ (List.mem_of_getElem? (i := 19) rfl)) rfl
theorem lkL_158 : Cond.methodLink RL 158 yX6_grazing ∈ zTb := zTb_of (tb_6 _ (List.mem_of_getElem? (i := 34) rfl)) rfl
theorem lkL_159 : Cond.methodLink RL 159 yX5_last ∈ zTb := zTb_of (tb_4 _ (List.mem_of_getElem? (i := 20) rfl)) rfl
theorem lkL_162 : Cond.methodLink RL 162 yX6_last ∈ zTb := zTb_of (tb_6 _ (List.mem_of_getElem? (i := 50) rfl)) rfl
theorem lkL_163 : Cond.methodLink RL 163 yX5_near ∈ zTb := zTb_of (tb_4 _ (List.mem_of_getElem? (i := 24) rfl)) rfl
theorem lkL_166 : Cond.methodLink RL 166 yX6_near ∈ zTb := zTb_of (tb_6 _ (List.mem_of_getElem? (i := 54) rfl)) rfl
theorem lkL_167 : Cond.methodLink RL 167 yX5_steps ∈ zTb := zTb_of (tb_4 _ (List.mem_of_getElem? (i := 28) rfl)) rfl
theorem lkL_170 : Cond.methodLink RL 170 yX6_steps_ ∈ zTb := zTb_of (tb_6 _ (List.mem_of_getElem? (i := 58) rfl)) rfl
theorem lkL_171 : Cond.methodLink RL 171 yX5_best ∈ zTb := zTb_of (tb_4 _ (List.mem_of_getElem? (i := 32) rfl)) rfl
theorem lkL_174 : Cond.methodLink RL 174 yX6_best ∈ zTb := zTb_of (tb_6 _ (List.mem_of_getElem? (i := 62) rfl)) rfl
theorem lkL_175 : Cond.methodLink RL 175 yX5_kinds ∈ zTb := zTb_of (tb_4 _ (List.mem_of_getElem? (i := 37) rfl)) rfl
theorem lkL_179 : Cond.methodLink RL 179 yX6_kinds ∈ zTb := zTb_of (tb_6 _ (List.mem_of_getElem? (i := 66) rfl)) rfl
theorem lkL_180 : Cond.methodLink RL 180 yX5_judge ∈ zTb := zTb_of (tb_4 _ (List.mem_of_getElem? (i := 50) rfl)) rfl
theorem lkL_183 : Cond.methodLink RL 183 yX6_judge ∈ zTb := zTb_of (tb_6 _ (List.mem_of_getElem? (i := 74) rfl)) rfl
theorem lkL_184 : Cond.methodLink RL 184 yX5_behind ∈ zTb := zTb_of (tb_4 _ (List.mem_of_getElem? (i := 58) rfl)) rfl
theorem lkL_187 : Cond.methodLink RL 187 yX6_behind ∈ zTb := zTb_of (tb_6 _ (List.mem_of_getElem? (i := 82) rfl)) rfl
theorem lkL_188 : Cond.methodLink RL 188 yX5_done ∈ zTb := zTb_of (tb_4 _ (List.mem_of_getElem? (i := 66) rfl)) rfl
theorem lkL_191 : Cond.methodLink RL 191 yX6_done ∈ zTb := zTb_of (tb_6 _ (List.mem_of_getElem? (i := 86) rfl)) rfl
theorem lkL_192 : Cond.methodLink RL 192 yX5_turn ∈ zTb := zTb_of (tb_4 _ (List.mem_of_getElem? (i := 70) rfl)) rfl
theorem lkL_195 : Cond.methodLink RL 195 yX6_turn ∈ zTb := zTb_of (tb_6 _ (List.mem_of_getElem? (i := 90) rfl)) rfl
theorem lkL_196 : Cond.methodLink RL 196 yX5_evening ∈ zTb := zTb_of (tb_4 _ (List.mem_of_getElem? (i := 74) rfl)) rfl
theorem lkL_199 : Cond.methodLink RL 199 yX6_evening ∈ zTb := zTb_of (tb_6 _ (List.mem_of_getElem? (i := 94) rfl)) rfl
theorem lkL_200 : Cond.methodLink RL 200 yX5_seed ∈ zTb := zTb_of (tb_4 _ (List.mem_of_getElem? (i := 83) rfl)) rfl
theorem lkL_203 : Cond.methodLink RL 203 yX6_seed ∈ zTb := zTb_of (tb_6 _ (List.mem_of_getElem? (i := 103) rfl)) rfl
theorem lkL_204 : Cond.methodLink RL 204 yX5_image ∈ zTb := zTb_of (tb_4 _ (List.mem_of_getElem? (i := 87) rfl)) rfl
theorem lkL_207 : Cond.methodLink RL 207 yX6_image ∈ zTb := zTb_of (tb_6 _ (List.mem_of_getElem? (i := 107) rfl)) rfl
theorem lkL_208 : Cond.methodLink RL 208 yX5_back ∈ zTb := zTb_of (tb_4 _ (List.mem_of_getElem? (i := 91) rfl)) rfl
theorem lkL_211 : Cond.methodLink RL 211 yX6_back ∈ zTb := zTb_of (tb_6 _ (List.mem_of_getElem? (i := 111) rfl)) rfl
theorem lkL_212 : Cond.methodLink RL 212 yX5_status ∈ zTb := zTb_of (tb_4 _ (List.mem_of_getElem? (i := 95) rfl)) rfl
theorem lkL_215 : Cond.methodLink RL 215 yX6_status ∈ zTb := zTb_of (tb_6 _ (List.mem_of_getElem? (i := 115) rfl)) rfl
theorem lkX6_75 : Cond.methodLink RX6 75 yX6_within ∈ zTb := zTb_of (tb_4 _ (List.mem_of_getElem? (i := 208) rfl)) rfl
theorem lkX6_79 : Cond.methodLink RX6 79 yX6_isShelf ∈ zTb := zTb_of (tb_4 _ (List.mem_of_getElem? (i := 205) rfl)) rfl
theorem lkX6_83 : Cond.methodLink RX6 83 yX6_no ∈ zTb := zTb_of (tb_4 _ (List.mem_of_getElem? (i := 211) rfl)) rfl
theorem lkX6_87 : Cond.methodLink RX6 87 yX6_isRow ∈ zTb := zTb_of (tb_4 _ (List.mem_of_getElem? (i := 219) rfl)) rfl
theorem lkX6_90 : Cond.methodLink RX6 90 yX6_noRow ∈ zTb := zTb_of (tb_4 _ (List.mem_of_getElem? (i := 223) rfl)) rfl
theorem lkX6_93 : Cond.methodLink RX6 93 yX6_kept ∈ zTb := zTb_of (tb_4 _ (List.mem_of_getElem? (i := 227) rfl)) rfl
theorem lkX6_97 : Cond.methodLink RX6 97 yX6_isEwe ∈ zTb := zTb_of (tb_5 _ (List.mem_of_getElem? (i := 6) rfl)) rfl
theorem lkX6_100 : Cond.methodLink RX6 100 yX6_isUnder ∈ zTb := zTb_of (tb_5 _ (List.mem_of_getElem? (i := 14) rfl)) rfl
theorem lkX6_104 : Cond.methodLink RX6 104 yX6_saves ∈ zTb := zTb_of (tb_5 _ (List.mem_of_getElem? (i := 17) rfl)) rfl
theorem lkX6_108 : Cond.methodLink RX6 108 yX6_eweGoes ∈ zTb := zTb_of (tb_5 _ (List.mem_of_getElem? (i := 21) rfl)) rfl
theorem lkX6_111 : Cond.methodLink RX6 111 yX6_again ∈ zTb := zTb_of (tb_5 _ (List.mem_of_getElem? (i := 49) rfl)) rfl
theorem lkX6_114 : Cond.methodLink RX6 114 yJ9_abs_0f7a4 ∈ zTb := zTb_of (tb_5 _ (List.mem_of_getElem? (i := 32) rfl)) rfl
theorem lkX6_122 : Cond.methodLink RX6 122 yX6_isIn ∈ zTb := zTb_of (tb_5 _ (List.mem_of_getElem? (i := 25) rfl)) rfl
theorem lkX6_125 : Cond.methodLink RX6 125 yX6_isEweAt ∈ zTb := zTb_of (tb_5 _ (List.mem_of_getElem? (i := 70) rfl)) rfl
theorem lkX6_128 : Cond.methodLink RX6 128 yX6_isCell ∈ zTb := zTb_of (tb_5 _ (List.mem_of_getElem? (i := 61) rfl)) rfl
theorem lkX6_132 : Cond.methodLink RX6 132 yX6_mayWall ∈ zTb := zTb_of (tb_5 _ (List.mem_of_getElem? (i := 66) rfl)) rfl
theorem lkX6_135 : Cond.methodLink RX6 135 yX6_in ∈ zTb := zTb_of (tb_5 _ (List.mem_of_getElem? (i := 82) rfl)) rfl
theorem lkX6_139 : Cond.methodLink RX6 139 yX6_mayPen ∈ zTb := zTb_of (tb_5 _ (List.mem_of_getElem? (i := 78) rfl)) rfl
theorem lkX6_142 : Cond.methodLink RX6 142 yX6_mayDog ∈ zTb := zTb_of (tb_5 _ (List.mem_of_getElem? (i := 90) rfl)) rfl
theorem lkX6_145 : Cond.methodLink RX6 145 yX6_newEwe ∈ zTb := zTb_of (tb_5 _ (List.mem_of_getElem? (i := 98) rfl)) rfl
theorem lkX6_161 : Cond.methodLink RX6 161 yX6_isLetter ∈ zTb := zTb_of (tb_5 _ (List.mem_of_getElem? (i := 130) rfl)) rfl
theorem lkX6_164 : Cond.methodLink RX6 164 yX6_isDigit ∈ zTb := zTb_of (tb_5 _ (List.mem_of_getElem? (i := 133) rfl)) rfl
theorem lkX6_170 : Cond.methodLink RX6 170 yJ0_length_8abf5 ∈ zTb := zTb_of (tb_5 _ (List.mem_of_getElem? (i := 145) rfl)) rfl
theorem lkX6_175 : Cond.methodLink RX6 175 yJ0_charAt_5068e ∈ zTb := zTb_of (tb_5 _ (List.mem_of_getElem? (i := 146) rfl)) rfl
theorem lkX6_179 : Cond.methodLink RX6 179 yX6_next ∈ zTb := zTb_of (tb_5 _ (List.mem_of_getElem? (i := 126) rfl)) rfl
theorem lkX6_182 : Cond.methodLink RX6 182 yX6_number ∈ zTb := zTb_of (tb_5 _ (List.mem_of_getElem? (i := 147) rfl)) rfl
theorem lkX6_188 : Cond.methodLink RX6 188 yX6_isWord ∈ zTb := zTb_of (tb_5 _ (List.mem_of_getElem? (i := 141) rfl)) rfl
theorem lkX6_194 : Cond.methodLink RX6 194 yX6_place ∈ zTb := zTb_of (tb_5 _ (List.mem_of_getElem? (i := 152) rfl)) rfl
theorem lkX6_204 : Cond.methodLink RX6 204 yX6_keep ∈ zTb := zTb_of (tb_5 _ (List.mem_of_getElem? (i := 122) rfl)) rfl
theorem lkX6_208 : Cond.methodLink RX6 208 yX6_statement ∈ zTb := zTb_of (tb_5 _ (List.mem_of_getElem? (i := 136) rfl)) rfl
theorem lkX6_212 : Cond.methodLink RX6 212 yX6_keepBack ∈ zTb := zTb_of (tb_5 _ (List.mem_of_getElem? (i := 161) rfl)) rfl
theorem lkX6_215 : Cond.methodLink RX6 215 yX6_steps ∈ zTb := zTb_of (tb_5 _ (List.mem_of_getElem? (i := 29) rfl)) rfl
theorem lkX6_218 : Cond.methodLink RX6 218 yX6_beside ∈ zTb := zTb_of (tb_5 _ (List.mem_of_getElem? (i := 45) rfl)) rfl
theorem lkX6_221 : Cond.methodLink RX6 221 yX6_leaderOf ∈ zTb := zTb_of (tb_5 _ (List.mem_of_getElem? (i := 37) rfl)) rfl
theorem lkX6_224 : Cond.methodLink RX6 224 yX6_flees ∈ zTb := zTb_of (tb_5 _ (List.mem_of_getElem? (i := 41) rfl)) rfl
theorem lkX6_228 : Cond.methodLink RX6 228 yX6_runs ∈ zTb := zTb_of (tb_5 _ (List.mem_of_getElem? (i := 33) rfl)) rfl
theorem lkX6_232 : Cond.methodLink RX6 232 yX6_can ∈ zTb := zTb_of (tb_5 _ (List.mem_of_getElem? (i := 181) rfl)) rfl
theorem lkX6_238 : Cond.methodLink RX6 238 yX6_goes ∈ zTb := zTb_of (tb_5 _ (List.mem_of_getElem? (i := 185) rfl)) rfl
theorem lkX6_241 : Cond.methodLink RX6 241 yX6_brings ∈ zTb := zTb_of (tb_5 _ (List.mem_of_getElem? (i := 177) rfl)) rfl
theorem lkX6_247 : Cond.methodLink RX6 247 yX6_seeks ∈ zTb := zTb_of (tb_5 _ (List.mem_of_getElem? (i := 193) rfl)) rfl
theorem lkX6_250 : Cond.methodLink RX6 250 yX6_allSteps ∈ zTb := zTb_of (tb_5 _ (List.mem_of_getElem? (i := 201) rfl)) rfl
theorem lkX6_253 : Cond.methodLink RX6 253 yX6_noTold ∈ zTb := zTb_of (tb_5 _ (List.mem_of_getElem? (i := 209) rfl)) rfl
theorem lkX6_256 : Cond.methodLink RX6 256 yX6_toldAt ∈ zTb := zTb_of (tb_5 _ (List.mem_of_getElem? (i := 213) rfl)) rfl
theorem lkX6_266 : Cond.methodLink RX6 266 yJ9_max_7cf53 ∈ zTb := zTb_of (tb_5 _ (List.mem_of_getElem? (i := 228) rfl)) rfl
theorem lkX6_269 : Cond.methodLink RX6 269 yX6_apart ∈ zTb := zTb_of (tb_5 _ (List.mem_of_getElem? (i := 224) rfl)) rfl
theorem lkX6_272 : Cond.methodLink RX6 272 yX6_flock ∈ zTb := zTb_of (tb_5 _ (List.mem_of_getElem? (i := 229) rfl)) rfl
theorem lkX6_275 : Cond.methodLink RX6 275 yX6_nearest ∈ zTb := zTb_of (tb_5 _ (List.mem_of_getElem? (i := 233) rfl)) rfl
theorem lkX6_278 : Cond.methodLink RX6 278 yX6_moved ∈ zTb := zTb_of (tb_5 _ (List.mem_of_getElem? (i := 237) rfl)) rfl
theorem lkX6_281 : Cond.methodLink RX6 281 yX6_walks ∈ zTb := zTb_of (tb_6 _ (List.mem_of_getElem? (i := 5) rfl)) rfl
theorem lkX6_284 : Cond.methodLink RX6 284 yX6_rows ∈ zTb := zTb_of (tb_6 _ (List.mem_of_getElem? (i := 17) rfl)) rfl
theorem lkX6_287 : Cond.methodLink RX6 287 yJ6_bitCount_0f7a4 ∈ zTb := zTb_of (tb_6 _ (List.mem_of_getElem? (i := 29) rfl)) rfl
theorem lkX6_292 : Cond.methodLink RX6 292 yX6_isSo ∈ zTb := zTb_of (tb_6 _ (List.mem_of_getElem? (i := 70) rfl)) rfl
theorem lkX6_296 : Cond.methodLink RX6 296 yX6_doneAll ∈ zTb := zTb_of (tb_6 _ (List.mem_of_getElem? (i := 78) rfl)) rfl
theorem lkX6_303 : Cond.methodLink RX6 303 yX6_draw ∈ zTb := zTb_of (tb_6 _ (List.mem_of_getElem? (i := 98) rfl)) rfl
theorem lkX6_310 : Cond.methodLink RX6 310 yX6_allWalls ∈ zTb := zTb_of (tb_6 _ (List.mem_of_getElem? (i := 119) rfl)) rfl
theorem lkJ0_335 : Cond.methodLink RJ0 335 yJ0_coder_7d493 ∈ zTb := zTb_of (tb_2 _ (List.mem_of_getElem? (i := 196) rfl)) rfl
theorem lkJ0_492 : Cond.methodLink RJ0 492 yJ0_isLatin1_aae02 ∈ zTb := zTb_of (tb_2 _ (List.mem_of_getElem? (i := 206) rfl)) rfl
theorem lkJ0_495 : Cond.methodLink RJ0 495 yJ1_charAt_3b067 ∈ zTb := zTb_of (tb_2 _ (List.mem_of_getElem? (i := 210) rfl)) rfl
theorem lkJ0_498 : Cond.methodLink RJ0 498 yJ2_charAt_3b067 ∈ zTb := zTb_of (tb_2 _ (List.mem_of_getElem? (i := 221) rfl)) rfl
theorem lkJ0_1059 : Cond.methodLink RJ0 1059 yJ3_checkIndex_8e157 ∈ zTb := zTb_of (tb_2 _ (List.mem_of_getElem? (i := 218) rfl)) rfl
theorem lkJ1_9 : Cond.methodLink RJ1 9 yJ0_checkIndex_df160 ∈ zTb := zTb_of (tb_2 _ (List.mem_of_getElem? (i := 213) rfl)) rfl
theorem lkJ2_48 : Cond.methodLink RJ2 48 yJ2_length_9d52b ∈ zTb := zTb_of (tb_2 _ (List.mem_of_getElem? (i := 227) rfl)) rfl
theorem lkJ2_67 : Cond.methodLink RJ2 67 yJ2_checkIndex_2214a ∈ zTb := zTb_of (tb_2 _ (List.mem_of_getElem? (i := 224) rfl)) rfl
theorem lkJ2_71 : Cond.methodLink RJ2 71 yJ2_getChar_3b067 ∈ zTb := zTb_of (tb_2 _ (List.mem_of_getElem? (i := 231) rfl)) rfl
theorem lkJ2_414 : Cond.methodLink RJ2 414 yJ0_checkIndex_df160 ∈ zTb := zTb_of (tb_2 _ (List.mem_of_getElem? (i := 230) rfl)) rfl
theorem lkAC1 : Cond.native arraycopyName ∈ zTb := zTb_of (tb_2 _ (List.mem_of_getElem? (i := 21) rfl)) rfl
theorem lkAC2 : Cond.static arraycopyName ∈ zTb := zTb_of (tb_2 _ (List.mem_of_getElem? (i := 20) rfl)) rfl
theorem lkAC3 : Cond.initialized "java/lang/System" ∈ zTb := zTb_of (tb_1 _ (List.mem_of_getElem? (i := 9) rfl)) rfl
theorem flX5_10 : Cond.fieldLink RX5 10 RX5 "now" "LTwoWhistlesAndFiveEwes$Hill;" ∈ zTb := zTb_of (tb_1 _ (List.mem_of_getElem? (i := 189) rfl)) rfl
theorem flX5_16 : Cond.fieldLink RX5 16 RX5 "kept" "LTwoWhistlesAndFiveEwes$Hill;" ∈ zTb := zTb_of (tb_1 _ (List.mem_of_getElem? (i := 190) rfl)) rfl
theorem flX5_19 : Cond.fieldLink RX5 19 RX5 "isKept" "Z" ∈ zTb := zTb_of (tb_1 _ (List.mem_of_getElem? (i := 191) rfl)) rfl
theorem flX5_26 : Cond.fieldLink RX5 26 RX5 "tape" "LTwoWhistlesAndFiveEwes$Tape;" ∈ zTb := zTb_of (tb_1 _ (List.mem_of_getElem? (i := 192) rfl)) rfl
theorem flX5_32 : Cond.fieldLink RX5 32 RX5 "shelves" "[LTwoWhistlesAndFiveEwes$Shelf;" ∈ zTb := zTb_of (tb_1 _ (List.mem_of_getElem? (i := 193) rfl)) rfl
theorem flX5_37 : Cond.fieldLink RX5 37 RX5 "refusals" "[I" ∈ zTb := zTb_of (tb_1 _ (List.mem_of_getElem? (i := 194) rfl)) rfl
theorem flX5_44 : Cond.fieldLink RX5 44 RX5 "trial" "LTwoWhistlesAndFiveEwes$Spots;" ∈ zTb := zTb_of (tb_1 _ (List.mem_of_getElem? (i := 195) rfl)) rfl
theorem flX5_51 : Cond.fieldLink RX5 51 RX5 "search" "LTwoWhistlesAndFiveEwes$Search;" ∈ zTb := zTb_of (tb_1 _ (List.mem_of_getElem? (i := 196) rfl)) rfl
theorem flX5_71 : Cond.fieldLink RX5 71 RX2 "size" "I" ∈ zTb := zTb_of (tb_1 _ (List.mem_of_getElem? (i := 144) rfl)) rfl
theorem flX5_75 : Cond.fieldLink RX5 75 RX2 "elements" "[J" ∈ zTb := zTb_of (tb_1 _ (List.mem_of_getElem? (i := 146) rfl)) rfl
theorem flX5_79 : Cond.fieldLink RX5 79 RX2 "held" "I" ∈ zTb := zTb_of (tb_1 _ (List.mem_of_getElem? (i := 142) rfl)) rfl
theorem flX5_109 : Cond.fieldLink RX5 109 RX0 "kinds" "[I" ∈ zTb := zTb_of (tb_1 _ (List.mem_of_getElem? (i := 76) rfl)) rfl
theorem flX5_115 : Cond.fieldLink RX5 115 RX0 "as" "[I" ∈ zTb := zTb_of (tb_1 _ (List.mem_of_getElem? (i := 78) rfl)) rfl
theorem flX5_118 : Cond.fieldLink RX5 118 RX0 "spots" "LTwoWhistlesAndFiveEwes$Spots;" ∈ zTb := zTb_of (tb_1 _ (List.mem_of_getElem? (i := 82) rfl)) rfl
theorem flX5_125 : Cond.fieldLink RX5 125 RX0 "side" "I" ∈ zTb := zTb_of (tb_1 _ (List.mem_of_getElem? (i := 58) rfl)) rfl
theorem flX5_144 : Cond.fieldLink RX5 144 RX0 "pen" "I" ∈ zTb := zTb_of (tb_1 _ (List.mem_of_getElem? (i := 61) rfl)) rfl
theorem flX5_150 : Cond.fieldLink RX5 150 RX3 "dog" "I" ∈ zTb := zTb_of (tb_1 _ (List.mem_of_getElem? (i := 41) rfl)) rfl
theorem flX5_156 : Cond.fieldLink RX5 156 RX0 "count" "I" ∈ zTb := zTb_of (tb_1 _ (List.mem_of_getElem? (i := 74) rfl)) rfl
theorem flX5_162 : Cond.fieldLink RX5 162 RX3 "cells" "[I" ∈ zTb := zTb_of (tb_1 _ (List.mem_of_getElem? (i := 47) rfl)) rfl
theorem flX5_165 : Cond.fieldLink RX5 165 RX0 "wind" "I" ∈ zTb := zTb_of (tb_1 _ (List.mem_of_getElem? (i := 64) rfl)) rfl
theorem flX5_168 : Cond.fieldLink RX5 168 RX4 "size" "I" ∈ zTb := zTb_of (tb_1 _ (List.mem_of_getElem? (i := 115) rfl)) rfl
theorem flX5_169 : Cond.fieldLink RX5 169 RX4 "bytes" "[I" ∈ zTb := zTb_of (tb_1 _ (List.mem_of_getElem? (i := 113) rfl)) rfl
theorem flX5_176 : Cond.fieldLink RX5 176 RX4 "draft" "LTwoWhistlesAndFiveEwes$Hill;" ∈ zTb := zTb_of (tb_1 _ (List.mem_of_getElem? (i := 117) rfl)) rfl
theorem flX5_187 : Cond.fieldLink RX5 187 RX1 "levels" "[LTwoWhistlesAndFiveEwes$Spots;" ∈ zTb := zTb_of (tb_1 _ (List.mem_of_getElem? (i := 167) rfl)) rfl
theorem flX5_198 : Cond.fieldLink RX5 198 RX1 "tried" "[I" ∈ zTb := zTb_of (tb_1 _ (List.mem_of_getElem? (i := 169) rfl)) rfl
theorem flX5_201 : Cond.fieldLink RX5 201 RX1 "most" "I" ∈ zTb := zTb_of (tb_1 _ (List.mem_of_getElem? (i := 173) rfl)) rfl
theorem flX5_208 : Cond.fieldLink RX5 208 RX1 "found" "[I" ∈ zTb := zTb_of (tb_1 _ (List.mem_of_getElem? (i := 171) rfl)) rfl
theorem flX5_238 : Cond.fieldLink RX5 238 RX0 "walls" "J" ∈ zTb := zTb_of (tb_1 _ (List.mem_of_getElem? (i := 70) rfl)) rfl
theorem flX5_294 : Cond.fieldLink RX5 294 RX5 "SHIFTS" "[I" ∈ zTb := zTb_of (tb_3 _ (List.mem_of_getElem? (i := 235) rfl)) rfl
theorem flX5_328 : Cond.fieldLink RX5 328 RX0 "turns" "I" ∈ zTb := zTb_of (tb_1 _ (List.mem_of_getElem? (i := 66) rfl)) rfl
theorem flX5_338 : Cond.fieldLink RX5 338 RX3 "did" "I" ∈ zTb := zTb_of (tb_1 _ (List.mem_of_getElem? (i := 44) rfl)) rfl
theorem flX5_341 : Cond.fieldLink RX5 341 RX0 "seed" "I" ∈ zTb := zTb_of (tb_1 _ (List.mem_of_getElem? (i := 68) rfl)) rfl
theorem flX5_354 : Cond.fieldLink RX5 354 RX5 "UNDER" "[I" ∈ zTb := zTb_of (tb_2 _ (List.mem_of_getElem? (i := 48) rfl)) rfl
theorem flX0_9 : Cond.fieldLink RX0 9 RX0 "side" "I" ∈ zTb := zTb_of (tb_1 _ (List.mem_of_getElem? (i := 56) rfl)) rfl
theorem flX0_15 : Cond.fieldLink RX0 15 RX0 "pen" "I" ∈ zTb := zTb_of (tb_1 _ (List.mem_of_getElem? (i := 59) rfl)) rfl
theorem flX0_18 : Cond.fieldLink RX0 18 RX0 "wind" "I" ∈ zTb := zTb_of (tb_1 _ (List.mem_of_getElem? (i := 62) rfl)) rfl
theorem flX0_21 : Cond.fieldLink RX0 21 RX0 "turns" "I" ∈ zTb := zTb_of (tb_1 _ (List.mem_of_getElem? (i := 65) rfl)) rfl
theorem flX0_24 : Cond.fieldLink RX0 24 RX0 "seed" "I" ∈ zTb := zTb_of (tb_1 _ (List.mem_of_getElem? (i := 67) rfl)) rfl
theorem flX0_27 : Cond.fieldLink RX0 27 RX0 "walls" "J" ∈ zTb := zTb_of (tb_1 _ (List.mem_of_getElem? (i := 69) rfl)) rfl
theorem flX0_31 : Cond.fieldLink RX0 31 RX0 "count" "I" ∈ zTb := zTb_of (tb_1 _ (List.mem_of_getElem? (i := 71) rfl)) rfl
theorem flX0_34 : Cond.fieldLink RX0 34 RX0 "kinds" "[I" ∈ zTb := zTb_of (tb_1 _ (List.mem_of_getElem? (i := 75) rfl)) rfl
theorem flX0_38 : Cond.fieldLink RX0 38 RX0 "as" "[I" ∈ zTb := zTb_of (tb_1 _ (List.mem_of_getElem? (i := 77) rfl)) rfl
theorem flX0_44 : Cond.fieldLink RX0 44 RX0 "spots" "LTwoWhistlesAndFiveEwes$Spots;" ∈ zTb := zTb_of (tb_1 _ (List.mem_of_getElem? (i := 79) rfl)) rfl
theorem flX0_71 : Cond.fieldLink RX0 71 RX3 "dog" "I" ∈ zTb := zTb_of (tb_1 _ (List.mem_of_getElem? (i := 39) rfl)) rfl
theorem flX0_77 : Cond.fieldLink RX0 77 RX3 "cells" "[I" ∈ zTb := zTb_of (tb_1 _ (List.mem_of_getElem? (i := 46) rfl)) rfl
theorem flX0_101 : Cond.fieldLink RX0 101 RX3 "did" "I" ∈ zTb := zTb_of (tb_1 _ (List.mem_of_getElem? (i := 43) rfl)) rfl
theorem flX1_11 : Cond.fieldLink RX1 11 RX1 "levels" "[LTwoWhistlesAndFiveEwes$Spots;" ∈ zTb := zTb_of (tb_1 _ (List.mem_of_getElem? (i := 166) rfl)) rfl
theorem flX1_18 : Cond.fieldLink RX1 18 RX1 "tried" "[I" ∈ zTb := zTb_of (tb_1 _ (List.mem_of_getElem? (i := 168) rfl)) rfl
theorem flX1_22 : Cond.fieldLink RX1 22 RX1 "found" "[I" ∈ zTb := zTb_of (tb_1 _ (List.mem_of_getElem? (i := 170) rfl)) rfl
theorem flX1_25 : Cond.fieldLink RX1 25 RX1 "most" "I" ∈ zTb := zTb_of (tb_1 _ (List.mem_of_getElem? (i := 172) rfl)) rfl
theorem flX1_29 : Cond.fieldLink RX1 29 RX1 "rows" "[I" ∈ zTb := zTb_of (tb_1 _ (List.mem_of_getElem? (i := 174) rfl)) rfl
theorem flX1_32 : Cond.fieldLink RX1 32 RX1 "rowsThen" "[I" ∈ zTb := zTb_of (tb_1 _ (List.mem_of_getElem? (i := 175) rfl)) rfl
theorem flX1_35 : Cond.fieldLink RX1 35 RX3 "dog" "I" ∈ zTb := zTb_of (tb_1 _ (List.mem_of_getElem? (i := 38) rfl)) rfl
theorem flX1_56 : Cond.fieldLink RX1 56 RX0 "count" "I" ∈ zTb := zTb_of (tb_1 _ (List.mem_of_getElem? (i := 72) rfl)) rfl
theorem flX1_81 : Cond.fieldLink RX1 81 RX0 "spots" "LTwoWhistlesAndFiveEwes$Spots;" ∈ zTb := zTb_of (tb_1 _ (List.mem_of_getElem? (i := 80) rfl)) rfl
theorem flX2_9 : Cond.fieldLink RX2 9 RX2 "held" "I" ∈ zTb := zTb_of (tb_1 _ (List.mem_of_getElem? (i := 141) rfl)) rfl
theorem flX2_15 : Cond.fieldLink RX2 15 RX2 "size" "I" ∈ zTb := zTb_of (tb_1 _ (List.mem_of_getElem? (i := 143) rfl)) rfl
theorem flX2_18 : Cond.fieldLink RX2 18 RX2 "elements" "[J" ∈ zTb := zTb_of (tb_1 _ (List.mem_of_getElem? (i := 145) rfl)) rfl
theorem flX3_9 : Cond.fieldLink RX3 9 RX3 "dog" "I" ∈ zTb := zTb_of (tb_1 _ (List.mem_of_getElem? (i := 37) rfl)) rfl
theorem flX3_15 : Cond.fieldLink RX3 15 RX3 "did" "I" ∈ zTb := zTb_of (tb_1 _ (List.mem_of_getElem? (i := 42) rfl)) rfl
theorem flX3_18 : Cond.fieldLink RX3 18 RX3 "cells" "[I" ∈ zTb := zTb_of (tb_1 _ (List.mem_of_getElem? (i := 45) rfl)) rfl
theorem flX4_9 : Cond.fieldLink RX4 9 RX4 "bytes" "[I" ∈ zTb := zTb_of (tb_1 _ (List.mem_of_getElem? (i := 112) rfl)) rfl
theorem flX4_15 : Cond.fieldLink RX4 15 RX4 "size" "I" ∈ zTb := zTb_of (tb_1 _ (List.mem_of_getElem? (i := 114) rfl)) rfl
theorem flX4_22 : Cond.fieldLink RX4 22 RX4 "draft" "LTwoWhistlesAndFiveEwes$Hill;" ∈ zTb := zTb_of (tb_1 _ (List.mem_of_getElem? (i := 116) rfl)) rfl
theorem flX4_26 : Cond.fieldLink RX4 26 RX4 "token" "I" ∈ zTb := zTb_of (tb_1 _ (List.mem_of_getElem? (i := 118) rfl)) rfl
theorem flX4_29 : Cond.fieldLink RX4 29 RX4 "start" "I" ∈ zTb := zTb_of (tb_1 _ (List.mem_of_getElem? (i := 119) rfl)) rfl
theorem flX4_32 : Cond.fieldLink RX4 32 RX4 "end" "I" ∈ zTb := zTb_of (tb_1 _ (List.mem_of_getElem? (i := 120) rfl)) rfl
theorem flX4_89 : Cond.fieldLink RX4 89 RX0 "side" "I" ∈ zTb := zTb_of (tb_1 _ (List.mem_of_getElem? (i := 57) rfl)) rfl
theorem flX4_105 : Cond.fieldLink RX4 105 RX0 "pen" "I" ∈ zTb := zTb_of (tb_1 _ (List.mem_of_getElem? (i := 60) rfl)) rfl
theorem flX4_110 : Cond.fieldLink RX4 110 RX0 "spots" "LTwoWhistlesAndFiveEwes$Spots;" ∈ zTb := zTb_of (tb_1 _ (List.mem_of_getElem? (i := 81) rfl)) rfl
theorem flX4_114 : Cond.fieldLink RX4 114 RX3 "dog" "I" ∈ zTb := zTb_of (tb_1 _ (List.mem_of_getElem? (i := 40) rfl)) rfl
theorem flX4_118 : Cond.fieldLink RX4 118 RX0 "count" "I" ∈ zTb := zTb_of (tb_1 _ (List.mem_of_getElem? (i := 73) rfl)) rfl
theorem flX4_131 : Cond.fieldLink RX4 131 RX0 "wind" "I" ∈ zTb := zTb_of (tb_1 _ (List.mem_of_getElem? (i := 63) rfl)) rfl
theorem flX6_7 : Cond.fieldLink RX6 7 RX6 "walls" "[Z" ∈ zTb := zTb_of (tb_4 _ (List.mem_of_getElem? (i := 110) rfl)) rfl
theorem flX6_13 : Cond.fieldLink RX6 13 RX6 "kind" "[I" ∈ zTb := zTb_of (tb_4 _ (List.mem_of_getElem? (i := 115) rfl)) rfl
theorem flX6_17 : Cond.fieldLink RX6 17 RX6 "own" "[I" ∈ zTb := zTb_of (tb_4 _ (List.mem_of_getElem? (i := 116) rfl)) rfl
theorem flX6_20 : Cond.fieldLink RX6 20 RX6 "cell" "[I" ∈ zTb := zTb_of (tb_4 _ (List.mem_of_getElem? (i := 117) rfl)) rfl
theorem flX6_23 : Cond.fieldLink RX6 23 RX6 "tape" "[I" ∈ zTb := zTb_of (tb_4 _ (List.mem_of_getElem? (i := 122) rfl)) rfl
theorem flX6_26 : Cond.fieldLink RX6 26 RX6 "holding" "[I" ∈ zTb := zTb_of (tb_4 _ (List.mem_of_getElem? (i := 127) rfl)) rfl
theorem flX6_29 : Cond.fieldLink RX6 29 RX6 "rowLength" "[I" ∈ zTb := zTb_of (tb_4 _ (List.mem_of_getElem? (i := 128) rfl)) rfl
theorem flX6_32 : Cond.fieldLink RX6 32 RX6 "rowOf" "[J" ∈ zTb := zTb_of (tb_4 _ (List.mem_of_getElem? (i := 129) rfl)) rfl
theorem flX6_36 : Cond.fieldLink RX6 36 RX6 "refusals" "[I" ∈ zTb := zTb_of (tb_4 _ (List.mem_of_getElem? (i := 130) rfl)) rfl
theorem flX6_39 : Cond.fieldLink RX6 39 RX6 "old" "[I" ∈ zTb := zTb_of (tb_4 _ (List.mem_of_getElem? (i := 132) rfl)) rfl
theorem flX6_42 : Cond.fieldLink RX6 42 RX6 "ahead" "[I" ∈ zTb := zTb_of (tb_4 _ (List.mem_of_getElem? (i := 133) rfl)) rfl
theorem flX6_45 : Cond.fieldLink RX6 45 RX6 "saved" "[I" ∈ zTb := zTb_of (tb_4 _ (List.mem_of_getElem? (i := 134) rfl)) rfl
theorem flX6_48 : Cond.fieldLink RX6 48 RX6 "path" "[I" ∈ zTb := zTb_of (tb_4 _ (List.mem_of_getElem? (i := 135) rfl)) rfl
theorem flX6_51 : Cond.fieldLink RX6 51 RX6 "bestPath" "[I" ∈ zTb := zTb_of (tb_4 _ (List.mem_of_getElem? (i := 136) rfl)) rfl
theorem flX6_54 : Cond.fieldLink RX6 54 RX6 "far" "[I" ∈ zTb := zTb_of (tb_4 _ (List.mem_of_getElem? (i := 138) rfl)) rfl
theorem flX6_57 : Cond.fieldLink RX6 57 RX6 "n" "I" ∈ zTb := zTb_of (tb_4 _ (List.mem_of_getElem? (i := 109) rfl)) rfl
theorem flX6_61 : Cond.fieldLink RX6 61 RX6 "dog" "I" ∈ zTb := zTb_of (tb_4 _ (List.mem_of_getElem? (i := 112) rfl)) rfl
theorem flX6_64 : Cond.fieldLink RX6 64 RX6 "wind" "I" ∈ zTb := zTb_of (tb_4 _ (List.mem_of_getElem? (i := 118) rfl)) rfl
theorem flX6_67 : Cond.fieldLink RX6 67 RX6 "seed" "I" ∈ zTb := zTb_of (tb_4 _ (List.mem_of_getElem? (i := 120) rfl)) rfl
theorem flX6_72 : Cond.fieldLink RX6 72 RX6 "many" "I" ∈ zTb := zTb_of (tb_4 _ (List.mem_of_getElem? (i := 114) rfl)) rfl
theorem flX6_119 : Cond.fieldLink RX6 119 RX6 "pen" "I" ∈ zTb := zTb_of (tb_4 _ (List.mem_of_getElem? (i := 111) rfl)) rfl
theorem flX6_149 : Cond.fieldLink RX6 149 RX6 "taped" "I" ∈ zTb := zTb_of (tb_4 _ (List.mem_of_getElem? (i := 121) rfl)) rfl
theorem flX6_152 : Cond.fieldLink RX6 152 RX6 "to" "I" ∈ zTb := zTb_of (tb_4 _ (List.mem_of_getElem? (i := 124) rfl)) rfl
theorem flX6_155 : Cond.fieldLink RX6 155 RX6 "from" "I" ∈ zTb := zTb_of (tb_4 _ (List.mem_of_getElem? (i := 123) rfl)) rfl
theorem flX6_158 : Cond.fieldLink RX6 158 RX6 "token" "I" ∈ zTb := zTb_of (tb_4 _ (List.mem_of_getElem? (i := 125) rfl)) rfl
theorem flX6_167 : Cond.fieldLink RX6 167 RX6 "value" "I" ∈ zTb := zTb_of (tb_4 _ (List.mem_of_getElem? (i := 126) rfl)) rfl
theorem flX6_235 : Cond.fieldLink RX6 235 RX6 "latest" "I" ∈ zTb := zTb_of (tb_4 _ (List.mem_of_getElem? (i := 113) rfl)) rfl
theorem flX6_244 : Cond.fieldLink RX6 244 RX6 "best" "I" ∈ zTb := zTb_of (tb_4 _ (List.mem_of_getElem? (i := 137) rfl)) rfl
theorem flX6_299 : Cond.fieldLink RX6 299 RX6 "turns" "I" ∈ zTb := zTb_of (tb_4 _ (List.mem_of_getElem? (i := 119) rfl)) rfl
theorem flX6_306 : Cond.fieldLink RX6 306 RX6 "imaged" "Z" ∈ zTb := zTb_of (tb_4 _ (List.mem_of_getElem? (i := 131) rfl)) rfl
theorem flJ0_9 : Cond.fieldLink RJ0 9 RJ0 "value" "[B" ∈ zTb := zTb_of (tb_6 _ (List.mem_of_getElem? (i := 124) rfl)) rfl
theorem flJ0_15 : Cond.fieldLink RJ0 15 RJ0 "coder" "B" ∈ zTb := zTb_of (tb_6 _ (List.mem_of_getElem? (i := 125) rfl)) rfl
theorem flJ0_38 : Cond.fieldLink RJ0 38 RJ0 "COMPACT_STRINGS" "Z" ∈ zTb := zTb_of (tb_2 _ (List.mem_of_getElem? (i := 200) rfl)) rfl
theorem flJ0_1053 : Cond.fieldLink RJ0 1053 RJ3 "SIOOBE_FORMATTER" "Ljava/util/function/BiFunction;" ∈ zTb := zTb_of (tb_2 _ (List.mem_of_getElem? (i := 216) rfl)) rfl
theorem flJ2_44 : Cond.fieldLink RJ2 44 RJ2 "$assertionsDisabled" "Z" ∈ zTb := zTb_of (tb_2 _ (List.mem_of_getElem? (i := 234) rfl)) rfl
theorem flJ2_59 : Cond.fieldLink RJ2 59 RJ2 "HI_BYTE_SHIFT" "I" ∈ zTb := zTb_of (tb_2 _ (List.mem_of_getElem? (i := 236) rfl)) rfl
theorem flJ2_63 : Cond.fieldLink RJ2 63 RJ2 "LO_BYTE_SHIFT" "I" ∈ zTb := zTb_of (tb_2 _ (List.mem_of_getElem? (i := 238) rfl)) rfl
