/-! the methods -/
def MX7_init : Mt := (7, yX7_init, cX7_init, 2, none)
theorem mkX7_init : Mk MX7_init := fun h => rfl
theorem mwX7_init : MW MX7_init 0 := ⟨tbG_of 72 (by decide +kernel) (by decide +kernel), tbG_of 51 (by decide +kernel) (by decide +kernel), by decide, by decide +kernel, by decide⟩
def MX6_init : Mt := (6, yX6_init, cX6_init, 1, none)
theorem mkX6_init : Mk MX6_init := fun h => rfl
theorem mwX6_init : MW MX6_init 0 := ⟨tbG_of 80 (by decide +kernel) (by decide +kernel), tbG_of 52 (by decide +kernel) (by decide +kernel), by decide, by decide +kernel, by decide⟩
def MX3_init : Mt := (3, yX3_init, cX3_init, 1, none)
theorem mkX3_init : Mk MX3_init := fun h => rfl
theorem mwX3_init : MW MX3_init 0 := ⟨tbG_of 108 (by decide +kernel) (by decide +kernel), tbG_of 53 (by decide +kernel) (by decide +kernel), by decide, by decide +kernel, by decide⟩
def MX2_init : Mt := (2, yX2_init, cX2_init, 3, none)
theorem mkX2_init : Mk MX2_init := fun h => rfl
theorem mwX2_init : MW MX2_init 1 := ⟨tbG_of 157 (by decide +kernel) (by decide +kernel), tbG_of 54 (by decide +kernel) (by decide +kernel), by decide, by decide +kernel, by decide⟩
def MX0_init : Mt := (0, yX0_init, cX0_init, 1, none)
theorem mkX0_init : Mk MX0_init := fun h => rfl
theorem mwX0_init : MW MX0_init 0 := ⟨tbG_of 164 (by decide +kernel) (by decide +kernel), tbG_of 55 (by decide +kernel) (by decide +kernel), by decide, by decide +kernel, by decide⟩
def MX1_init : Mt := (1, yX1_init, cX1_init, 1, none)
theorem mkX1_init : Mk MX1_init := fun h => rfl
theorem mwX1_init : MW MX1_init 0 := ⟨tbG_of 187 (by decide +kernel) (by decide +kernel), tbG_of 56 (by decide +kernel) (by decide +kernel), by decide, by decide +kernel, by decide⟩
def MX4_init : Mt := (4, yX4_init, cX4_init, 1, none)
theorem mkX4_init : Mk MX4_init := fun h => rfl
theorem mwX4_init : MW MX4_init 0 := ⟨tbG_of 269 (by decide +kernel) (by decide +kernel), tbG_of 57 (by decide +kernel) (by decide +kernel), by decide, by decide +kernel, by decide⟩
def MX5_init : Mt := (5, yX5_init, cX5_init, 1, none)
theorem mkX5_init : Mk MX5_init := fun h => rfl
theorem mwX5_init : MW MX5_init 0 := ⟨tbG_of 289 (by decide +kernel) (by decide +kernel), tbG_of 58 (by decide +kernel) (by decide +kernel), by decide, by decide +kernel, by decide⟩
def MX7_digger : Mt := (7, yX7_digger, cX7_digger, 5, (some (.int)))
theorem mkX7_digger : Mk MX7_digger := fun h => rfl
theorem mwX7_digger : MW MX7_digger 4 := ⟨tbG_of 344 (by decide +kernel) (by decide +kernel), tbG_of 51 (by decide +kernel) (by decide +kernel), by decide, by decide +kernel, by decide⟩
def MX7_isKind : Mt := (7, yX7_isKind, cX7_isKind, 1, (some (.boolean)))
theorem mkX7_isKind : Mk MX7_isKind := fun h => rfl
theorem mwX7_isKind : MW MX7_isKind 1 := ⟨tbG_of 347 (by decide +kernel) (by decide +kernel), tbG_of 51 (by decide +kernel) (by decide +kernel), by decide, by decide +kernel, by decide⟩
def MX7_within : Mt := (7, yX7_within, cX7_within, 3, (some (.boolean)))
theorem mkX7_within : Mk MX7_within := fun h => rfl
theorem mwX7_within : MW MX7_within 3 := ⟨tbG_of 350 (by decide +kernel) (by decide +kernel), tbG_of 51 (by decide +kernel) (by decide +kernel), by decide, by decide +kernel, by decide⟩
def MX7_isBranch : Mt := (7, yX7_isBranch, cX7_isBranch, 1, (some (.boolean)))
theorem mkX7_isBranch : Mk MX7_isBranch := fun h => rfl
theorem mwX7_isBranch : MW MX7_isBranch 1 := ⟨tbG_of 353 (by decide +kernel) (by decide +kernel), tbG_of 51 (by decide +kernel) (by decide +kernel), by decide, by decide +kernel, by decide⟩
def MX2_add : Mt := (2, yX2_add, cX2_add, 6, (some (.int)))
theorem mkX2_add : Mk MX2_add := fun h => rfl
theorem mwX2_add : MW MX2_add 4 := ⟨tbG_of 358 (by decide +kernel) (by decide +kernel), tbG_of 54 (by decide +kernel) (by decide +kernel), by decide, by decide +kernel, by decide⟩
def MX7_told : Mt := (7, yX7_told, cX7_told, 4, (some (.int)))
theorem mkX7_told : Mk MX7_told := fun h => rfl
theorem mwX7_told : MW MX7_told 2 := ⟨tbG_of 364 (by decide +kernel) (by decide +kernel), tbG_of 51 (by decide +kernel) (by decide +kernel), by decide, by decide +kernel, by decide⟩
def MX7_isDigger : Mt := (7, yX7_isDigger, cX7_isDigger, 2, (some (.boolean)))
theorem mkX7_isDigger : Mk MX7_isDigger := fun h => rfl
theorem mwX7_isDigger : MW MX7_isDigger 1 := ⟨tbG_of 368 (by decide +kernel) (by decide +kernel), tbG_of 51 (by decide +kernel) (by decide +kernel), by decide, by decide +kernel, by decide⟩
def MX2_digs : Mt := (2, yX2_digs, cX2_digs, 4, (some (.int)))
theorem mkX2_digs : Mk MX2_digs := fun h => rfl
theorem mwX2_digs : MW MX2_digs 1 := ⟨tbG_of 372 (by decide +kernel) (by decide +kernel), tbG_of 54 (by decide +kernel) (by decide +kernel), by decide, by decide +kernel, by decide⟩
def MX2_plain : Mt := (2, yX2_plain, cX2_plain, 3, (some (.int)))
theorem mkX2_plain : Mk MX2_plain := fun h => rfl
theorem mwX2_plain : MW MX2_plain 1 := ⟨tbG_of 376 (by decide +kernel) (by decide +kernel), tbG_of 54 (by decide +kernel) (by decide +kernel), by decide, by decide +kernel, by decide⟩
def MX7_held : Mt := (7, yX7_held, cX7_held, 1, (some (.int)))
theorem mkX7_held : Mk MX7_held := fun h => rfl
theorem mwX7_held : MW MX7_held 1 := ⟨tbG_of 379 (by decide +kernel) (by decide +kernel), tbG_of 51 (by decide +kernel) (by decide +kernel), by decide, by decide +kernel, by decide⟩
def MX6_put : Mt := (6, yX6_put, cX6_put, 3, none)
theorem mkX6_put : Mk MX6_put := fun h => rfl
theorem mwX6_put : MW MX6_put 2 := ⟨tbG_of 389 (by decide +kernel) (by decide +kernel), tbG_of 52 (by decide +kernel) (by decide +kernel), by decide, by decide +kernel, by decide⟩
def MX0_ahead : Mt := (0, yX0_ahead, cX0_ahead, 1, (some (.int)))
theorem mkX0_ahead : Mk MX0_ahead := fun h => rfl
theorem mwX0_ahead : MW MX0_ahead 0 := ⟨tbG_of 393 (by decide +kernel) (by decide +kernel), tbG_of 55 (by decide +kernel) (by decide +kernel), by decide, by decide +kernel, by decide⟩
def MX2_litIn : Mt := (2, yX2_litIn, cX2_litIn, 4, (some (.int)))
theorem mkX2_litIn : Mk MX2_litIn := fun h => rfl
theorem mwX2_litIn : MW MX2_litIn 1 := ⟨tbG_of 397 (by decide +kernel) (by decide +kernel), tbG_of 54 (by decide +kernel) (by decide +kernel), by decide, by decide +kernel, by decide⟩
def MX1_isLit : Mt := (1, yX1_isLit, cX1_isLit, 1, (some (.boolean)))
theorem mkX1_isLit : Mk MX1_isLit := fun h => rfl
theorem mwX1_isLit : MW MX1_isLit 0 := ⟨tbG_of 401 (by decide +kernel) (by decide +kernel), tbG_of 56 (by decide +kernel) (by decide +kernel), by decide, by decide +kernel, by decide⟩
def MX6_gives : Mt := (6, yX6_gives, cX6_gives, 6, (some (.int)))
theorem mkX6_gives : Mk MX6_gives := fun h => rfl
theorem mwX6_gives : MW MX6_gives 1 := ⟨tbG_of 405 (by decide +kernel) (by decide +kernel), tbG_of 52 (by decide +kernel) (by decide +kernel), by decide, by decide +kernel, by decide⟩
def MX6_joined : Mt := (6, yX6_joined, cX6_joined, 3, (some (.int)))
theorem mkX6_joined : Mk MX6_joined := fun h => rfl
theorem mwX6_joined : MW MX6_joined 3 := ⟨tbG_of 408 (by decide +kernel) (by decide +kernel), tbG_of 52 (by decide +kernel) (by decide +kernel), by decide, by decide +kernel, by decide⟩
def MX2_isFar : Mt := (2, yX2_isFar, cX2_isFar, 2, (some (.boolean)))
theorem mkX2_isFar : Mk MX2_isFar := fun h => rfl
theorem mwX2_isFar : MW MX2_isFar 1 := ⟨tbG_of 412 (by decide +kernel) (by decide +kernel), tbG_of 54 (by decide +kernel) (by decide +kernel), by decide, by decide +kernel, by decide⟩
def MX2_matesOf : Mt := (2, yX2_matesOf, cX2_matesOf, 5, (some (.int)))
theorem mkX2_matesOf : Mk MX2_matesOf := fun h => rfl
theorem mwX2_matesOf : MW MX2_matesOf 1 := ⟨tbG_of 416 (by decide +kernel) (by decide +kernel), tbG_of 54 (by decide +kernel) (by decide +kernel), by decide, by decide +kernel, by decide⟩
def MX1_isOne : Mt := (1, yX1_isOne, cX1_isOne, 4, (some (.boolean)))
theorem mkX1_isOne : Mk MX1_isOne := fun h => rfl
theorem mwX1_isOne : MW MX1_isOne 1 := ⟨tbG_of 420 (by decide +kernel) (by decide +kernel), tbG_of 56 (by decide +kernel) (by decide +kernel), by decide, by decide +kernel, by decide⟩
def MX2_burns : Mt := (2, yX2_burns, cX2_burns, 3, (some (.int)))
theorem mkX2_burns : Mk MX2_burns := fun h => rfl
theorem mwX2_burns : MW MX2_burns 1 := ⟨tbG_of 426 (by decide +kernel) (by decide +kernel), tbG_of 54 (by decide +kernel) (by decide +kernel), by decide, by decide +kernel, by decide⟩
def MX1_worth : Mt := (1, yX1_worth, cX1_worth, 1, (some (.int)))
theorem mkX1_worth : Mk MX1_worth := fun h => rfl
theorem mwX1_worth : MW MX1_worth 0 := ⟨tbG_of 430 (by decide +kernel) (by decide +kernel), tbG_of 56 (by decide +kernel) (by decide +kernel), by decide, by decide +kernel, by decide⟩
def MX7_as : Mt := (7, yX7_as, cX7_as, 4, (some (.int)))
theorem mkX7_as : Mk MX7_as := fun h => rfl
theorem mwX7_as : MW MX7_as 2 := ⟨tbG_of 434 (by decide +kernel) (by decide +kernel), tbG_of 51 (by decide +kernel) (by decide +kernel), by decide, by decide +kernel, by decide⟩
def MX7_turns : Mt := (7, yX7_turns, cX7_turns, 5, (some (.int)))
theorem mkX7_turns : Mk MX7_turns := fun h => rfl
theorem mwX7_turns : MW MX7_turns 2 := ⟨tbG_of 440 (by decide +kernel) (by decide +kernel), tbG_of 51 (by decide +kernel) (by decide +kernel), by decide, by decide +kernel, by decide⟩
def MX7_set : Mt := (7, yX7_set, cX7_set, 6, (some (.int)))
theorem mkX7_set : Mk MX7_set := fun h => rfl
theorem mwX7_set : MW MX7_set 3 := ⟨tbG_of 444 (by decide +kernel) (by decide +kernel), tbG_of 51 (by decide +kernel) (by decide +kernel), by decide, by decide +kernel, by decide⟩
def MX7_sends : Mt := (7, yX7_sends, cX7_sends, 5, (some (.int)))
theorem mkX7_sends : Mk MX7_sends := fun h => rfl
theorem mwX7_sends : MW MX7_sends 2 := ⟨tbG_of 448 (by decide +kernel) (by decide +kernel), tbG_of 51 (by decide +kernel) (by decide +kernel), by decide, by decide +kernel, by decide⟩
def MX7_branch : Mt := (7, yX7_branch, cX7_branch, 6, (some (.int)))
theorem mkX7_branch : Mk MX7_branch := fun h => rfl
theorem mwX7_branch : MW MX7_branch 3 := ⟨tbG_of 452 (by decide +kernel) (by decide +kernel), tbG_of 51 (by decide +kernel) (by decide +kernel), by decide, by decide +kernel, by decide⟩
def MX7_branchOf : Mt := (7, yX7_branchOf, cX7_branchOf, 4, (some (.int)))
theorem mkX7_branchOf : Mk MX7_branchOf := fun h => rfl
theorem mwX7_branchOf : MW MX7_branchOf 2 := ⟨tbG_of 456 (by decide +kernel) (by decide +kernel), tbG_of 51 (by decide +kernel) (by decide +kernel), by decide, by decide +kernel, by decide⟩
def MX2_diggersIn : Mt := (2, yX2_diggersIn, cX2_diggersIn, 4, (some (.int)))
theorem mkX2_diggersIn : Mk MX2_diggersIn := fun h => rfl
theorem mwX2_diggersIn : MW MX2_diggersIn 1 := ⟨tbG_of 461 (by decide +kernel) (by decide +kernel), tbG_of 54 (by decide +kernel) (by decide +kernel), by decide, by decide +kernel, by decide⟩
def MX2_digIn : Mt := (2, yX2_digIn, cX2_digIn, 4, (some (.int)))
theorem mkX2_digIn : Mk MX2_digIn := fun h => rfl
theorem mwX2_digIn : MW MX2_digIn 1 := ⟨tbG_of 465 (by decide +kernel) (by decide +kernel), tbG_of 54 (by decide +kernel) (by decide +kernel), by decide, by decide +kernel, by decide⟩
def MX7_rule : Mt := (7, yX7_rule, cX7_rule, 4, (some (.int)))
theorem mkX7_rule : Mk MX7_rule := fun h => rfl
theorem mwX7_rule : MW MX7_rule 2 := ⟨tbG_of 470 (by decide +kernel) (by decide +kernel), tbG_of 51 (by decide +kernel) (by decide +kernel), by decide, by decide +kernel, by decide⟩
def MX7_deal : Mt := (7, yX7_deal, cX7_deal, 4, (some (.int)))
theorem mkX7_deal : Mk MX7_deal := fun h => rfl
theorem mwX7_deal : MW MX7_deal 1 := ⟨tbG_of 474 (by decide +kernel) (by decide +kernel), tbG_of 51 (by decide +kernel) (by decide +kernel), by decide, by decide +kernel, by decide⟩
def MX2_addDrawn : Mt := (2, yX2_addDrawn, cX2_addDrawn, 5, none)
theorem mkX2_addDrawn : Mk MX2_addDrawn := fun h => rfl
theorem mwX2_addDrawn : MW MX2_addDrawn 0 := ⟨tbG_of 478 (by decide +kernel) (by decide +kernel), tbG_of 54 (by decide +kernel) (by decide +kernel), by decide, by decide +kernel, by decide⟩
def MX2_draw : Mt := (2, yX2_draw, cX2_draw, 1, (some (.int)))
theorem mkX2_draw : Mk MX2_draw := fun h => rfl
theorem mwX2_draw : MW MX2_draw 0 := ⟨tbG_of 482 (by decide +kernel) (by decide +kernel), tbG_of 54 (by decide +kernel) (by decide +kernel), by decide, by decide +kernel, by decide⟩
def MX7_seed : Mt := (7, yX7_seed, cX7_seed, 3, (some (.int)))
theorem mkX7_seed : Mk MX7_seed := fun h => rfl
theorem mwX7_seed : MW MX7_seed 1 := ⟨tbG_of 488 (by decide +kernel) (by decide +kernel), tbG_of 51 (by decide +kernel) (by decide +kernel), by decide, by decide +kernel, by decide⟩
def MX7_nights : Mt := (7, yX7_nights, cX7_nights, 3, (some (.int)))
theorem mkX7_nights : Mk MX7_nights := fun h => rfl
theorem mwX7_nights : MW MX7_nights 1 := ⟨tbG_of 492 (by decide +kernel) (by decide +kernel), tbG_of 51 (by decide +kernel) (by decide +kernel), by decide, by decide +kernel, by decide⟩
def MX2_hill : Mt := (2, yX2_hill, cX2_hill, 3, (some (.int)))
theorem mkX2_hill : Mk MX2_hill := fun h => rfl
theorem mwX2_hill : MW MX2_hill 0 := ⟨tbG_of 496 (by decide +kernel) (by decide +kernel), tbG_of 54 (by decide +kernel) (by decide +kernel), by decide, by decide +kernel, by decide⟩
def MX2_pass : Mt := (2, yX2_pass, cX2_pass, 4, none)
theorem mkX2_pass : Mk MX2_pass := fun h => rfl
theorem mwX2_pass : MW MX2_pass 1 := ⟨tbG_of 500 (by decide +kernel) (by decide +kernel), tbG_of 54 (by decide +kernel) (by decide +kernel), by decide, by decide +kernel, by decide⟩
def MX2_digAll : Mt := (2, yX2_digAll, cX2_digAll, 7, none)
theorem mkX2_digAll : Mk MX2_digAll := fun h => rfl
theorem mwX2_digAll : MW MX2_digAll 0 := ⟨tbG_of 504 (by decide +kernel) (by decide +kernel), tbG_of 54 (by decide +kernel) (by decide +kernel), by decide, by decide +kernel, by decide⟩
def MX2_follow : Mt := (2, yX2_follow, cX2_follow, 3, none)
theorem mkX2_follow : Mk MX2_follow := fun h => rfl
theorem mwX2_follow : MW MX2_follow 1 := ⟨tbG_of 511 (by decide +kernel) (by decide +kernel), tbG_of 54 (by decide +kernel) (by decide +kernel), by decide, by decide +kernel, by decide⟩
def MX2_flee : Mt := (2, yX2_flee, cX2_flee, 4, none)
theorem mkX2_flee : Mk MX2_flee := fun h => rfl
theorem mwX2_flee : MW MX2_flee 1 := ⟨tbG_of 516 (by decide +kernel) (by decide +kernel), tbG_of 54 (by decide +kernel) (by decide +kernel), by decide, by decide +kernel, by decide⟩
def MX2_letRockFall : Mt := (2, yX2_letRockFall, cX2_letRockFall, 2, none)
theorem mkX2_letRockFall : Mk MX2_letRockFall := fun h => rfl
theorem mwX2_letRockFall : MW MX2_letRockFall 0 := ⟨tbG_of 520 (by decide +kernel) (by decide +kernel), tbG_of 54 (by decide +kernel) (by decide +kernel), by decide, by decide +kernel, by decide⟩
def MX7_below : Mt := (7, yX7_below, cX7_below, 2, (some (.int)))
theorem mkX7_below : Mk MX7_below := fun h => rfl
theorem mwX7_below : MW MX7_below 1 := ⟨tbG_of 524 (by decide +kernel) (by decide +kernel), tbG_of 51 (by decide +kernel) (by decide +kernel), by decide, by decide +kernel, by decide⟩
def MX2_candlesOfAll : Mt := (2, yX2_candlesOfAll, cX2_candlesOfAll, 3, (some (.int)))
theorem mkX2_candlesOfAll : Mk MX2_candlesOfAll := fun h => rfl
theorem mwX2_candlesOfAll : MW MX2_candlesOfAll 0 := ⟨tbG_of 528 (by decide +kernel) (by decide +kernel), tbG_of 54 (by decide +kernel) (by decide +kernel), by decide, by decide +kernel, by decide⟩
def MX2_branchesInUse : Mt := (2, yX2_branchesInUse, cX2_branchesInUse, 3, (some (.int)))
theorem mkX2_branchesInUse : Mk MX2_branchesInUse := fun h => rfl
theorem mwX2_branchesInUse : MW MX2_branchesInUse 0 := ⟨tbG_of 532 (by decide +kernel) (by decide +kernel), tbG_of 54 (by decide +kernel) (by decide +kernel), by decide, by decide +kernel, by decide⟩
def MX2_front : Mt := (2, yX2_front, cX2_front, 3, (some (.int)))
theorem mkX2_front : Mk MX2_front := fun h => rfl
theorem mwX2_front : MW MX2_front 0 := ⟨tbG_of 536 (by decide +kernel) (by decide +kernel), tbG_of 54 (by decide +kernel) (by decide +kernel), by decide, by decide +kernel, by decide⟩
def MX7_behind : Mt := (7, yX7_behind, cX7_behind, 3, (some (.int)))
theorem mkX7_behind : Mk MX7_behind := fun h => rfl
theorem mwX7_behind : MW MX7_behind 2 := ⟨tbG_of 540 (by decide +kernel) (by decide +kernel), tbG_of 51 (by decide +kernel) (by decide +kernel), by decide, by decide +kernel, by decide⟩
def MX2_becomeAs : Mt := (2, yX2_becomeAs, cX2_becomeAs, 3, none)
theorem mkX2_becomeAs : Mk MX2_becomeAs := fun h => rfl
theorem mwX2_becomeAs : MW MX2_becomeAs 1 := ⟨tbG_of 544 (by decide +kernel) (by decide +kernel), tbG_of 54 (by decide +kernel) (by decide +kernel), by decide, by decide +kernel, by decide⟩
def MX0_becomeAs : Mt := (0, yX0_becomeAs, cX0_becomeAs, 2, none)
theorem mkX0_becomeAs : Mk MX0_becomeAs := fun h => rfl
theorem mwX0_becomeAs : MW MX0_becomeAs 1 := ⟨tbG_of 548 (by decide +kernel) (by decide +kernel), tbG_of 55 (by decide +kernel) (by decide +kernel), by decide, by decide +kernel, by decide⟩
def MX1_becomeAs : Mt := (1, yX1_becomeAs, cX1_becomeAs, 2, none)
theorem mkX1_becomeAs : Mk MX1_becomeAs := fun h => rfl
theorem mwX1_becomeAs : MW MX1_becomeAs 1 := ⟨tbG_of 552 (by decide +kernel) (by decide +kernel), tbG_of 56 (by decide +kernel) (by decide +kernel), by decide, by decide +kernel, by decide⟩
def MX7_reaches : Mt := (7, yX7_reaches, cX7_reaches, 5, (some (.int)))
theorem mkX7_reaches : Mk MX7_reaches := fun h => rfl
theorem mwX7_reaches : MW MX7_reaches 2 := ⟨tbG_of 556 (by decide +kernel) (by decide +kernel), tbG_of 51 (by decide +kernel) (by decide +kernel), by decide, by decide +kernel, by decide⟩
def MX7_leaves : Mt := (7, yX7_leaves, cX7_leaves, 5, (some (.int)))
theorem mkX7_leaves : Mk MX7_leaves := fun h => rfl
theorem mwX7_leaves : MW MX7_leaves 1 := ⟨tbG_of 561 (by decide +kernel) (by decide +kernel), tbG_of 51 (by decide +kernel) (by decide +kernel), by decide, by decide +kernel, by decide⟩
def MX7_light : Mt := (7, yX7_light, cX7_light, 8, (some (.int)))
theorem mkX7_light : Mk MX7_light := fun h => rfl
theorem mwX7_light : MW MX7_light 2 := ⟨tbG_of 565 (by decide +kernel) (by decide +kernel), tbG_of 51 (by decide +kernel) (by decide +kernel), by decide, by decide +kernel, by decide⟩
def MX2_room : Mt := (2, yX2_room, cX2_room, 1, (some (.int)))
theorem mkX2_room : Mk MX2_room := fun h => rfl
theorem mwX2_room : MW MX2_room 0 := ⟨tbG_of 569 (by decide +kernel) (by decide +kernel), tbG_of 54 (by decide +kernel) (by decide +kernel), by decide, by decide +kernel, by decide⟩
def MX2_dugOfAll : Mt := (2, yX2_dugOfAll, cX2_dugOfAll, 3, (some (.int)))
theorem mkX2_dugOfAll : Mk MX2_dugOfAll := fun h => rfl
theorem mwX2_dugOfAll : MW MX2_dugOfAll 0 := ⟨tbG_of 573 (by decide +kernel) (by decide +kernel), tbG_of 54 (by decide +kernel) (by decide +kernel), by decide, by decide +kernel, by decide⟩
def MX2_lit : Mt := (2, yX2_lit, cX2_lit, 3, (some (.int)))
theorem mkX2_lit : Mk MX2_lit := fun h => rfl
theorem mwX2_lit : MW MX2_lit 0 := ⟨tbG_of 577 (by decide +kernel) (by decide +kernel), tbG_of 54 (by decide +kernel) (by decide +kernel), by decide, by decide +kernel, by decide⟩
def MJ6_bitCount_0f7a4 : Mt := (9, yJ6_bitCount_0f7a4, cJ6_bitCount_0f7a4, 1, (some (.int)))
theorem mkJ6_bitCount_0f7a4 : Mk MJ6_bitCount_0f7a4 := fun h => rfl
theorem mwJ6_bitCount_0f7a4 : MW MJ6_bitCount_0f7a4 1 := ⟨tbG_of 580 (by decide +kernel) (by decide +kernel), tbG_of 61 (by decide +kernel) (by decide +kernel), by decide, by decide +kernel, by decide⟩
def MX2_putOutAllBut : Mt := (2, yX2_putOutAllBut, cX2_putOutAllBut, 3, none)
theorem mkX2_putOutAllBut : Mk MX2_putOutAllBut := fun h => rfl
theorem mwX2_putOutAllBut : MW MX2_putOutAllBut 1 := ⟨tbG_of 587 (by decide +kernel) (by decide +kernel), tbG_of 54 (by decide +kernel) (by decide +kernel), by decide, by decide +kernel, by decide⟩
def MX7_wax : Mt := (7, yX7_wax, cX7_wax, 6, (some (.int)))
theorem mkX7_wax : Mk MX7_wax := fun h => rfl
theorem mwX7_wax : MW MX7_wax 3 := ⟨tbG_of 591 (by decide +kernel) (by decide +kernel), tbG_of 51 (by decide +kernel) (by decide +kernel), by decide, by decide +kernel, by decide⟩
def MX7_sent : Mt := (7, yX7_sent, cX7_sent, 8, (some (.int)))
theorem mkX7_sent : Mk MX7_sent := fun h => rfl
theorem mwX7_sent : MW MX7_sent 3 := ⟨tbG_of 595 (by decide +kernel) (by decide +kernel), tbG_of 51 (by decide +kernel) (by decide +kernel), by decide, by decide +kernel, by decide⟩
def MX7_becomes : Mt := (7, yX7_becomes, cX7_becomes, 8, (some (.int)))
theorem mkX7_becomes : Mk MX7_becomes := fun h => rfl
theorem mwX7_becomes : MW MX7_becomes 3 := ⟨tbG_of 599 (by decide +kernel) (by decide +kernel), tbG_of 51 (by decide +kernel) (by decide +kernel), by decide, by decide +kernel, by decide⟩
def MX7_like : Mt := (7, yX7_like, cX7_like, 8, (some (.int)))
theorem mkX7_like : Mk MX7_like := fun h => rfl
theorem mwX7_like : MW MX7_like 2 := ⟨tbG_of 603 (by decide +kernel) (by decide +kernel), tbG_of 51 (by decide +kernel) (by decide +kernel), by decide, by decide +kernel, by decide⟩
def MX7_isSheet : Mt := (7, yX7_isSheet, cX7_isSheet, 1, (some (.boolean)))
theorem mkX7_isSheet : Mk MX7_isSheet := fun h => rfl
theorem mwX7_isSheet : MW MX7_isSheet 1 := ⟨tbG_of 606 (by decide +kernel) (by decide +kernel), tbG_of 51 (by decide +kernel) (by decide +kernel), by decide, by decide +kernel, by decide⟩
def MX4_isMissing : Mt := (4, yX4_isMissing, cX4_isMissing, 1, (some (.boolean)))
theorem mkX4_isMissing : Mk MX4_isMissing := fun h => rfl
theorem mwX4_isMissing : MW MX4_isMissing 0 := ⟨tbG_of 610 (by decide +kernel) (by decide +kernel), tbG_of 57 (by decide +kernel) (by decide +kernel), by decide, by decide +kernel, by decide⟩
def MX7_differences : Mt := (7, yX7_differences, cX7_differences, 6, (some (.int)))
theorem mkX7_differences : Mk MX7_differences := fun h => rfl
theorem mwX7_differences : MW MX7_differences 2 := ⟨tbG_of 615 (by decide +kernel) (by decide +kernel), tbG_of 51 (by decide +kernel) (by decide +kernel), by decide, by decide +kernel, by decide⟩
def MX4_isNumber : Mt := (4, yX4_isNumber, cX4_isNumber, 2, (some (.boolean)))
theorem mkX4_isNumber : Mk MX4_isNumber := fun h => rfl
theorem mwX4_isNumber : MW MX4_isNumber 1 := ⟨tbG_of 619 (by decide +kernel) (by decide +kernel), tbG_of 57 (by decide +kernel) (by decide +kernel), by decide, by decide +kernel, by decide⟩
def MX4_hasPlace : Mt := (4, yX4_hasPlace, cX4_hasPlace, 2, (some (.boolean)))
theorem mkX4_hasPlace : Mk MX4_hasPlace := fun h => rfl
theorem mwX4_hasPlace : MW MX4_hasPlace 1 := ⟨tbG_of 623 (by decide +kernel) (by decide +kernel), tbG_of 57 (by decide +kernel) (by decide +kernel), by decide, by decide +kernel, by decide⟩
def MX7_fee : Mt := (7, yX7_fee, cX7_fee, 1, (some (.int)))
theorem mkX7_fee : Mk MX7_fee := fun h => rfl
theorem mwX7_fee : MW MX7_fee 0 := ⟨tbG_of 631 (by decide +kernel) (by decide +kernel), tbG_of 51 (by decide +kernel) (by decide +kernel), by decide, by decide +kernel, by decide⟩
def MX2_feeGives : Mt := (2, yX2_feeGives, cX2_feeGives, 1, (some (.int)))
theorem mkX2_feeGives : Mk MX2_feeGives := fun h => rfl
theorem mwX2_feeGives : MW MX2_feeGives 0 := ⟨tbG_of 635 (by decide +kernel) (by decide +kernel), tbG_of 54 (by decide +kernel) (by decide +kernel), by decide, by decide +kernel, by decide⟩
def MX7_fine : Mt := (7, yX7_fine, cX7_fine, 2, (some (.int)))
theorem mkX7_fine : Mk MX7_fine := fun h => rfl
theorem mwX7_fine : MW MX7_fine 1 := ⟨tbG_of 640 (by decide +kernel) (by decide +kernel), tbG_of 51 (by decide +kernel) (by decide +kernel), by decide, by decide +kernel, by decide⟩
def MX2_fineGives : Mt := (2, yX2_fineGives, cX2_fineGives, 2, (some (.int)))
theorem mkX2_fineGives : Mk MX2_fineGives := fun h => rfl
theorem mwX2_fineGives : MW MX2_fineGives 1 := ⟨tbG_of 644 (by decide +kernel) (by decide +kernel), tbG_of 54 (by decide +kernel) (by decide +kernel), by decide, by decide +kernel, by decide⟩
def MX7_feed : Mt := (7, yX7_feed, cX7_feed, 4, (some (.int)))
theorem mkX7_feed : Mk MX7_feed := fun h => rfl
theorem mwX7_feed : MW MX7_feed 3 := ⟨tbG_of 648 (by decide +kernel) (by decide +kernel), tbG_of 51 (by decide +kernel) (by decide +kernel), by decide, by decide +kernel, by decide⟩
def MX3_addBytes : Mt := (3, yX3_addBytes, cX3_addBytes, 3, none)
theorem mkX3_addBytes : Mk MX3_addBytes := fun h => rfl
theorem mwX3_addBytes : MW MX3_addBytes 1 := ⟨tbG_of 652 (by decide +kernel) (by decide +kernel), tbG_of 53 (by decide +kernel) (by decide +kernel), by decide, by decide +kernel, by decide⟩
def MX7_trim : Mt := (7, yX7_trim, cX7_trim, 2, (some (.int)))
theorem mkX7_trim : Mk MX7_trim := fun h => rfl
theorem mwX7_trim : MW MX7_trim 1 := ⟨tbG_of 656 (by decide +kernel) (by decide +kernel), tbG_of 51 (by decide +kernel) (by decide +kernel), by decide, by decide +kernel, by decide⟩
def MX7_text : Mt := (7, yX7_text, cX7_text, 2, (some (.int)))
theorem mkX7_text : Mk MX7_text := fun h => rfl
theorem mwX7_text : MW MX7_text 0 := ⟨tbG_of 660 (by decide +kernel) (by decide +kernel), tbG_of 51 (by decide +kernel) (by decide +kernel), by decide, by decide +kernel, by decide⟩
def MX3_fault : Mt := (3, yX3_fault, cX3_fault, 1, (some (.int)))
theorem mkX3_fault : Mk MX3_fault := fun h => rfl
theorem mwX3_fault : MW MX3_fault 0 := ⟨tbG_of 664 (by decide +kernel) (by decide +kernel), tbG_of 53 (by decide +kernel) (by decide +kernel), by decide, by decide +kernel, by decide⟩
def MX3_begin : Mt := (3, yX3_begin, cX3_begin, 1, none)
theorem mkX3_begin : Mk MX3_begin := fun h => rfl
theorem mwX3_begin : MW MX3_begin 0 := ⟨tbG_of 668 (by decide +kernel) (by decide +kernel), tbG_of 53 (by decide +kernel) (by decide +kernel), by decide, by decide +kernel, by decide⟩
def MX3_next : Mt := (3, yX3_next, cX3_next, 3, none)
theorem mkX3_next : Mk MX3_next := fun h => rfl
theorem mwX3_next : MW MX3_next 0 := ⟨tbG_of 672 (by decide +kernel) (by decide +kernel), tbG_of 53 (by decide +kernel) (by decide +kernel), by decide, by decide +kernel, by decide⟩
def MX3_byteAt : Mt := (3, yX3_byteAt, cX3_byteAt, 2, (some (.int)))
theorem mkX3_byteAt : Mk MX3_byteAt := fun h => rfl
theorem mwX3_byteAt : MW MX3_byteAt 1 := ⟨tbG_of 676 (by decide +kernel) (by decide +kernel), tbG_of 53 (by decide +kernel) (by decide +kernel), by decide, by decide +kernel, by decide⟩
def MX3_isWord : Mt := (3, yX3_isWord, cX3_isWord, 1, (some (.boolean)))
theorem mkX3_isWord : Mk MX3_isWord := fun h => rfl
theorem mwX3_isWord : MW MX3_isWord 1 := ⟨tbG_of 679 (by decide +kernel) (by decide +kernel), tbG_of 53 (by decide +kernel) (by decide +kernel), by decide, by decide +kernel, by decide⟩
def MX3_sortAt : Mt := (3, yX3_sortAt, cX3_sortAt, 3, (some (.int)))
theorem mkX3_sortAt : Mk MX3_sortAt := fun h => rfl
theorem mwX3_sortAt : MW MX3_sortAt 1 := ⟨tbG_of 683 (by decide +kernel) (by decide +kernel), tbG_of 53 (by decide +kernel) (by decide +kernel), by decide, by decide +kernel, by decide⟩
def MX3_keyHere : Mt := (3, yX3_keyHere, cX3_keyHere, 1, (some (.int)))
theorem mkX3_keyHere : Mk MX3_keyHere := fun h => rfl
theorem mwX3_keyHere : MW MX3_keyHere 0 := ⟨tbG_of 687 (by decide +kernel) (by decide +kernel), tbG_of 53 (by decide +kernel) (by decide +kernel), by decide, by decide +kernel, by decide⟩
def MX3_isHere : Mt := (3, yX3_isHere, cX3_isHere, 3, (some (.boolean)))
theorem mkX3_isHere : Mk MX3_isHere := fun h => rfl
theorem mwX3_isHere : MW MX3_isHere 1 := ⟨tbG_of 692 (by decide +kernel) (by decide +kernel), tbG_of 53 (by decide +kernel) (by decide +kernel), by decide, by decide +kernel, by decide⟩
def MJ0_length_8abf5 : Mt := (30, yJ0_length_8abf5, cJ0_length_8abf5, 1, (some (.int)))
theorem mkJ0_length_8abf5 : Mk MJ0_length_8abf5 := fun h => absurd h (by decide)
theorem mwJ0_length_8abf5 : MW MJ0_length_8abf5 0 := ⟨tbG_of 696 (by decide +kernel) (by decide +kernel), tbG_of 62 (by decide +kernel) (by decide +kernel), by decide, by decide +kernel, by decide⟩
def MJ0_coder_7d493 : Mt := (30, yJ0_coder_7d493, cJ0_coder_7d493, 1, (some (.byte)))
theorem mkJ0_coder_7d493 : Mk MJ0_coder_7d493 := fun h => absurd h (by decide)
theorem mwJ0_coder_7d493 : MW MJ0_coder_7d493 0 := ⟨tbG_of 700 (by decide +kernel) (by decide +kernel), tbG_of 62 (by decide +kernel) (by decide +kernel), by decide, by decide +kernel, by decide⟩
def MJ0_charAt_5068e : Mt := (30, yJ0_charAt_5068e, cJ0_charAt_5068e, 2, (some (.char)))
theorem mkJ0_charAt_5068e : Mk MJ0_charAt_5068e := fun h => absurd h (by decide)
theorem mwJ0_charAt_5068e : MW MJ0_charAt_5068e 1 := ⟨tbG_of 706 (by decide +kernel) (by decide +kernel), tbG_of 62 (by decide +kernel) (by decide +kernel), by decide, by decide +kernel, by decide⟩
def MJ0_isLatin1_aae02 : Mt := (30, yJ0_isLatin1_aae02, cJ0_isLatin1_aae02, 1, (some (.boolean)))
theorem mkJ0_isLatin1_aae02 : Mk MJ0_isLatin1_aae02 := fun h => absurd h (by decide)
theorem mwJ0_isLatin1_aae02 : MW MJ0_isLatin1_aae02 0 := ⟨tbG_of 710 (by decide +kernel) (by decide +kernel), tbG_of 62 (by decide +kernel) (by decide +kernel), by decide, by decide +kernel, by decide⟩
def MJ1_charAt_3b067 : Mt := (30, yJ1_charAt_3b067, cJ1_charAt_3b067, 2, (some (.char)))
theorem mkJ1_charAt_3b067 : Mk MJ1_charAt_3b067 := fun h => absurd h (by decide)
theorem mwJ1_charAt_3b067 : MW MJ1_charAt_3b067 2 := ⟨tbG_of 713 (by decide +kernel) (by decide +kernel), tbG_of 63 (by decide +kernel) (by decide +kernel), by decide, by decide +kernel, by decide⟩
def MJ0_checkIndex_df160 : Mt := (30, yJ0_checkIndex_df160, cJ0_checkIndex_df160, 2, none)
theorem mkJ0_checkIndex_df160 : Mk MJ0_checkIndex_df160 := fun h => absurd h (by decide)
theorem mwJ0_checkIndex_df160 : MW MJ0_checkIndex_df160 2 := ⟨tbG_of 716 (by decide +kernel) (by decide +kernel), tbG_of 62 (by decide +kernel) (by decide +kernel), by decide, by decide +kernel, by decide⟩
def MJ3_checkIndex_8e157 : Mt := (30, yJ3_checkIndex_8e157, cJ3_checkIndex_8e157, 3, (some (.int)))
theorem mkJ3_checkIndex_8e157 : Mk MJ3_checkIndex_8e157 := fun h => absurd h (by decide)
theorem mwJ3_checkIndex_8e157 : MW MJ3_checkIndex_8e157 3 := ⟨tbG_of 721 (by decide +kernel) (by decide +kernel), tbG_of 64 (by decide +kernel) (by decide +kernel), by decide, by decide +kernel, by decide⟩
def MX3_part : Mt := (3, yX3_part, cX3_part, 5, (some (.boolean)))
theorem mkX3_part : Mk MX3_part := fun h => rfl
theorem mwX3_part : MW MX3_part 1 := ⟨tbG_of 746 (by decide +kernel) (by decide +kernel), tbG_of 53 (by decide +kernel) (by decide +kernel), by decide, by decide +kernel, by decide⟩
def MX3_piece : Mt := (3, yX3_piece, cX3_piece, 2, (some (.boolean)))
theorem mkX3_piece : Mk MX3_piece := fun h => rfl
theorem mwX3_piece : MW MX3_piece 0 := ⟨tbG_of 750 (by decide +kernel) (by decide +kernel), tbG_of 53 (by decide +kernel) (by decide +kernel), by decide, by decide +kernel, by decide⟩
def MX3_leaf : Mt := (3, yX3_leaf, cX3_leaf, 2, (some (.boolean)))
theorem mkX3_leaf : Mk MX3_leaf := fun h => rfl
theorem mwX3_leaf : MW MX3_leaf 0 := ⟨tbG_of 754 (by decide +kernel) (by decide +kernel), tbG_of 53 (by decide +kernel) (by decide +kernel), by decide, by decide +kernel, by decide⟩
def MX3_number : Mt := (3, yX3_number, cX3_number, 3, (some (.int)))
theorem mkX3_number : Mk MX3_number := fun h => rfl
theorem mwX3_number : MW MX3_number 0 := ⟨tbG_of 758 (by decide +kernel) (by decide +kernel), tbG_of 53 (by decide +kernel) (by decide +kernel), by decide, by decide +kernel, by decide⟩
def MX3_name : Mt := (3, yX3_name, cX3_name, 2, (some (.int)))
theorem mkX3_name : Mk MX3_name := fun h => rfl
theorem mwX3_name : MW MX3_name 0 := ⟨tbG_of 762 (by decide +kernel) (by decide +kernel), tbG_of 53 (by decide +kernel) (by decide +kernel), by decide, by decide +kernel, by decide⟩
def MX3_namesOf : Mt := (3, yX3_namesOf, cX3_namesOf, 1, (some ((.object "java/lang/String"))))
theorem mkX3_namesOf : Mk MX3_namesOf := fun h => rfl
theorem mwX3_namesOf : MW MX3_namesOf 1 := ⟨tbG_of 765 (by decide +kernel) (by decide +kernel), tbG_of 53 (by decide +kernel) (by decide +kernel), by decide, by decide +kernel, by decide⟩
def MJ0_indexOf_0f7a4 : Mt := (30, yJ0_indexOf_0f7a4, cJ0_indexOf_0f7a4, 2, (some (.int)))
theorem mkJ0_indexOf_0f7a4 : Mk MJ0_indexOf_0f7a4 := fun h => absurd h (by decide)
theorem mwJ0_indexOf_0f7a4 : MW MJ0_indexOf_0f7a4 1 := ⟨tbG_of 772 (by decide +kernel) (by decide +kernel), tbG_of 62 (by decide +kernel) (by decide +kernel), by decide, by decide +kernel, by decide⟩
def MJ0_indexOf_7cf53 : Mt := (30, yJ0_indexOf_7cf53, cJ0_indexOf_7cf53, 3, (some (.int)))
theorem mkJ0_indexOf_7cf53 : Mk MJ0_indexOf_7cf53 := fun h => absurd h (by decide)
theorem mwJ0_indexOf_7cf53 : MW MJ0_indexOf_7cf53 2 := ⟨tbG_of 776 (by decide +kernel) (by decide +kernel), tbG_of 62 (by decide +kernel) (by decide +kernel), by decide, by decide +kernel, by decide⟩
def MJ1_indexOf_4cfef : Mt := (30, yJ1_indexOf_4cfef, cJ1_indexOf_4cfef, 4, (some (.int)))
theorem mkJ1_indexOf_4cfef : Mk MJ1_indexOf_4cfef := fun h => absurd h (by decide)
theorem mwJ1_indexOf_4cfef : MW MJ1_indexOf_4cfef 4 := ⟨tbG_of 780 (by decide +kernel) (by decide +kernel), tbG_of 63 (by decide +kernel) (by decide +kernel), by decide, by decide +kernel, by decide⟩
def MJ1_canEncode_9a6ad : Mt := (30, yJ1_canEncode_9a6ad, cJ1_canEncode_9a6ad, 1, (some (.boolean)))
theorem mkJ1_canEncode_9a6ad : Mk MJ1_canEncode_9a6ad := fun h => absurd h (by decide)
theorem mwJ1_canEncode_9a6ad : MW MJ1_canEncode_9a6ad 1 := ⟨tbG_of 783 (by decide +kernel) (by decide +kernel), tbG_of 63 (by decide +kernel) (by decide +kernel), by decide, by decide +kernel, by decide⟩
def MJ1_indexOfChar_4cfef : Mt := (30, yJ1_indexOfChar_4cfef, cJ1_indexOfChar_4cfef, 6, (some (.int)))
theorem mkJ1_indexOfChar_4cfef : Mk MJ1_indexOfChar_4cfef := fun h => absurd h (by decide)
theorem mwJ1_indexOfChar_4cfef : MW MJ1_indexOfChar_4cfef 4 := ⟨tbG_of 788 (by decide +kernel) (by decide +kernel), tbG_of 63 (by decide +kernel) (by decide +kernel), by decide, by decide +kernel, by decide⟩
def MJ0_checkBoundsBeginEnd_23922 : Mt := (30, yJ0_checkBoundsBeginEnd_23922, cJ0_checkBoundsBeginEnd_23922, 3, none)
theorem mkJ0_checkBoundsBeginEnd_23922 : Mk MJ0_checkBoundsBeginEnd_23922 := fun h => absurd h (by decide)
theorem mwJ0_checkBoundsBeginEnd_23922 : MW MJ0_checkBoundsBeginEnd_23922 3 := ⟨tbG_of 803 (by decide +kernel) (by decide +kernel), tbG_of 62 (by decide +kernel) (by decide +kernel), by decide, by decide +kernel, by decide⟩
def MJ3_checkFromToIndex_8c36e : Mt := (30, yJ3_checkFromToIndex_8c36e, cJ3_checkFromToIndex_8c36e, 4, (some (.int)))
theorem mkJ3_checkFromToIndex_8c36e : Mk MJ3_checkFromToIndex_8c36e := fun h => absurd h (by decide)
theorem mwJ3_checkFromToIndex_8c36e : MW MJ3_checkFromToIndex_8c36e 4 := ⟨tbG_of 806 (by decide +kernel) (by decide +kernel), tbG_of 64 (by decide +kernel) (by decide +kernel), by decide, by decide +kernel, by decide⟩
def MX3_put : Mt := (3, yX3_put, cX3_put, 2, none)
theorem mkX3_put : Mk MX3_put := fun h => rfl
theorem mwX3_put : MW MX3_put 1 := ⟨tbG_of 827 (by decide +kernel) (by decide +kernel), tbG_of 53 (by decide +kernel) (by decide +kernel), by decide, by decide +kernel, by decide⟩
def MX3_not : Mt := (3, yX3_not, cX3_not, 1, (some (.boolean)))
theorem mkX3_not : Mk MX3_not := fun h => rfl
theorem mwX3_not : MW MX3_not 0 := ⟨tbG_of 831 (by decide +kernel) (by decide +kernel), tbG_of 53 (by decide +kernel) (by decide +kernel), by decide, by decide +kernel, by decide⟩
def MX3_bracket : Mt := (3, yX3_bracket, cX3_bracket, 1, (some (.boolean)))
theorem mkX3_bracket : Mk MX3_bracket := fun h => rfl
theorem mwX3_bracket : MW MX3_bracket 0 := ⟨tbG_of 835 (by decide +kernel) (by decide +kernel), tbG_of 53 (by decide +kernel) (by decide +kernel), by decide, by decide +kernel, by decide⟩
def MX3_isSignOf : Mt := (3, yX3_isSignOf, cX3_isSignOf, 2, (some (.boolean)))
theorem mkX3_isSignOf : Mk MX3_isSignOf := fun h => rfl
theorem mwX3_isSignOf : MW MX3_isSignOf 1 := ⟨tbG_of 839 (by decide +kernel) (by decide +kernel), tbG_of 53 (by decide +kernel) (by decide +kernel), by decide, by decide +kernel, by decide⟩
def MX3_signsOf : Mt := (3, yX3_signsOf, cX3_signsOf, 1, (some ((.object "java/lang/String"))))
theorem mkX3_signsOf : Mk MX3_signsOf := fun h => rfl
theorem mwX3_signsOf : MW MX3_signsOf 1 := ⟨tbG_of 842 (by decide +kernel) (by decide +kernel), tbG_of 53 (by decide +kernel) (by decide +kernel), by decide, by decide +kernel, by decide⟩
def MX2_addText : Mt := (2, yX2_addText, cX2_addText, 3, (some (.int)))
theorem mkX2_addText : Mk MX2_addText := fun h => rfl
theorem mwX2_addText : MW MX2_addText 1 := ⟨tbG_of 851 (by decide +kernel) (by decide +kernel), tbG_of 54 (by decide +kernel) (by decide +kernel), by decide, by decide +kernel, by decide⟩
def MX6_write : Mt := (6, yX6_write, cX6_write, 4, none)
theorem mkX6_write : Mk MX6_write := fun h => rfl
theorem mwX6_write : MW MX6_write 2 := ⟨tbG_of 855 (by decide +kernel) (by decide +kernel), tbG_of 52 (by decide +kernel) (by decide +kernel), by decide, by decide +kernel, by decide⟩
def MX7_textTold : Mt := (7, yX7_textTold, cX7_textTold, 3, (some (.int)))
theorem mkX7_textTold : Mk MX7_textTold := fun h => rfl
theorem mwX7_textTold : MW MX7_textTold 2 := ⟨tbG_of 861 (by decide +kernel) (by decide +kernel), tbG_of 51 (by decide +kernel) (by decide +kernel), by decide, by decide +kernel, by decide⟩
def MX7_why : Mt := (7, yX7_why, cX7_why, 2, (some (.int)))
theorem mkX7_why : Mk MX7_why := fun h => rfl
theorem mwX7_why : MW MX7_why 1 := ⟨tbG_of 865 (by decide +kernel) (by decide +kernel), tbG_of 51 (by decide +kernel) (by decide +kernel), by decide, by decide +kernel, by decide⟩
def MX7_sheet : Mt := (7, yX7_sheet, cX7_sheet, 4, (some (.int)))
theorem mkX7_sheet : Mk MX7_sheet := fun h => rfl
theorem mwX7_sheet : MW MX7_sheet 3 := ⟨tbG_of 869 (by decide +kernel) (by decide +kernel), tbG_of 51 (by decide +kernel) (by decide +kernel), by decide, by decide +kernel, by decide⟩
def MX4_become : Mt := (4, yX4_become, cX4_become, 4, none)
theorem mkX4_become : Mk MX4_become := fun h => rfl
theorem mwX4_become : MW MX4_become 2 := ⟨tbG_of 873 (by decide +kernel) (by decide +kernel), tbG_of 57 (by decide +kernel) (by decide +kernel), by decide, by decide +kernel, by decide⟩
def MX7_mark : Mt := (7, yX7_mark, cX7_mark, 5, (some (.int)))
theorem mkX7_mark : Mk MX7_mark := fun h => rfl
theorem mwX7_mark : MW MX7_mark 3 := ⟨tbG_of 878 (by decide +kernel) (by decide +kernel), tbG_of 51 (by decide +kernel) (by decide +kernel), by decide, by decide +kernel, by decide⟩
def MX7_pour : Mt := (7, yX7_pour, cX7_pour, 8, (some (.int)))
theorem mkX7_pour : Mk MX7_pour := fun h => rfl
theorem mwX7_pour : MW MX7_pour 1 := ⟨tbG_of 886 (by decide +kernel) (by decide +kernel), tbG_of 51 (by decide +kernel) (by decide +kernel), by decide, by decide +kernel, by decide⟩
def MX7_reads : Mt := (7, yX7_reads, cX7_reads, 4, (some (.int)))
theorem mkX7_reads : Mk MX7_reads := fun h => rfl
theorem mwX7_reads : MW MX7_reads 1 := ⟨tbG_of 891 (by decide +kernel) (by decide +kernel), tbG_of 51 (by decide +kernel) (by decide +kernel), by decide, by decide +kernel, by decide⟩
def MX7_copy : Mt := (7, yX7_copy, cX7_copy, 8, (some (.int)))
theorem mkX7_copy : Mk MX7_copy := fun h => rfl
theorem mwX7_copy : MW MX7_copy 5 := ⟨tbG_of 895 (by decide +kernel) (by decide +kernel), tbG_of 51 (by decide +kernel) (by decide +kernel), by decide, by decide +kernel, by decide⟩
def MX4_hasPlaces : Mt := (4, yX4_hasPlaces, cX4_hasPlaces, 3, (some (.boolean)))
theorem mkX4_hasPlaces : Mk MX4_hasPlaces := fun h => rfl
theorem mwX4_hasPlaces : MW MX4_hasPlaces 2 := ⟨tbG_of 899 (by decide +kernel) (by decide +kernel), tbG_of 57 (by decide +kernel) (by decide +kernel), by decide, by decide +kernel, by decide⟩
def MX7_lay : Mt := (7, yX7_lay, cX7_lay, 6, (some (.int)))
theorem mkX7_lay : Mk MX7_lay := fun h => rfl
theorem mwX7_lay : MW MX7_lay 3 := ⟨tbG_of 906 (by decide +kernel) (by decide +kernel), tbG_of 51 (by decide +kernel) (by decide +kernel), by decide, by decide +kernel, by decide⟩
def MX7_isSlot : Mt := (7, yX7_isSlot, cX7_isSlot, 1, (some (.boolean)))
theorem mkX7_isSlot : Mk MX7_isSlot := fun h => rfl
theorem mwX7_isSlot : MW MX7_isSlot 1 := ⟨tbG_of 909 (by decide +kernel) (by decide +kernel), tbG_of 51 (by decide +kernel) (by decide +kernel), by decide, by decide +kernel, by decide⟩
def MX4_becomeAs : Mt := (4, yX4_becomeAs, cX4_becomeAs, 2, none)
theorem mkX4_becomeAs : Mk MX4_becomeAs := fun h => rfl
theorem mwX4_becomeAs : MW MX4_becomeAs 1 := ⟨tbG_of 914 (by decide +kernel) (by decide +kernel), tbG_of 57 (by decide +kernel) (by decide +kernel), by decide, by decide +kernel, by decide⟩
def MX7_ask : Mt := (7, yX7_ask, cX7_ask, 4, (some (.int)))
theorem mkX7_ask : Mk MX7_ask := fun h => rfl
theorem mwX7_ask : MW MX7_ask 2 := ⟨tbG_of 919 (by decide +kernel) (by decide +kernel), tbG_of 51 (by decide +kernel) (by decide +kernel), by decide, by decide +kernel, by decide⟩
def MX7_item : Mt := (7, yX7_item, cX7_item, 4, (some (.int)))
theorem mkX7_item : Mk MX7_item := fun h => rfl
theorem mwX7_item : MW MX7_item 2 := ⟨tbG_of 923 (by decide +kernel) (by decide +kernel), tbG_of 51 (by decide +kernel) (by decide +kernel), by decide, by decide +kernel, by decide⟩
def MX7_rest : Mt := (7, yX7_rest, cX7_rest, 4, (some (.int)))
theorem mkX7_rest : Mk MX7_rest := fun h => rfl
theorem mwX7_rest : MW MX7_rest 2 := ⟨tbG_of 927 (by decide +kernel) (by decide +kernel), tbG_of 51 (by decide +kernel) (by decide +kernel), by decide, by decide +kernel, by decide⟩
def MX7_tell : Mt := (7, yX7_tell, cX7_tell, 2, (some (.int)))
theorem mkX7_tell : Mk MX7_tell := fun h => rfl
theorem mwX7_tell : MW MX7_tell 1 := ⟨tbG_of 932 (by decide +kernel) (by decide +kernel), tbG_of 51 (by decide +kernel) (by decide +kernel), by decide, by decide +kernel, by decide⟩
def MX7_check : Mt := (7, yX7_check, cX7_check, 5, (some (.int)))
theorem mkX7_check : Mk MX7_check := fun h => rfl
theorem mwX7_check : MW MX7_check 1 := ⟨tbG_of 936 (by decide +kernel) (by decide +kernel), tbG_of 51 (by decide +kernel) (by decide +kernel), by decide, by decide +kernel, by decide⟩
def MX7_isTold : Mt := (7, yX7_isTold, cX7_isTold, 4, (some (.boolean)))
theorem mkX7_isTold : Mk MX7_isTold := fun h => rfl
theorem mwX7_isTold : MW MX7_isTold 3 := ⟨tbG_of 940 (by decide +kernel) (by decide +kernel), tbG_of 51 (by decide +kernel) (by decide +kernel), by decide, by decide +kernel, by decide⟩
def MX7_keep : Mt := (7, yX7_keep, cX7_keep, 1, (some (.int)))
theorem mkX7_keep : Mk MX7_keep := fun h => rfl
theorem mwX7_keep : MW MX7_keep 0 := ⟨tbG_of 945 (by decide +kernel) (by decide +kernel), tbG_of 51 (by decide +kernel) (by decide +kernel), by decide, by decide +kernel, by decide⟩
def MX7_back : Mt := (7, yX7_back, cX7_back, 1, (some (.int)))
theorem mkX7_back : Mk MX7_back := fun h => rfl
theorem mwX7_back : MW MX7_back 0 := ⟨tbG_of 949 (by decide +kernel) (by decide +kernel), tbG_of 51 (by decide +kernel) (by decide +kernel), by decide, by decide +kernel, by decide⟩
def MX7_count : Mt := (7, yX7_count, cX7_count, 2, (some (.int)))
theorem mkX7_count : Mk MX7_count := fun h => rfl
theorem mwX7_count : MW MX7_count 1 := ⟨tbG_of 953 (by decide +kernel) (by decide +kernel), tbG_of 51 (by decide +kernel) (by decide +kernel), by decide, by decide +kernel, by decide⟩
def MX8_init : Mt := (8, yX8_init, cX8_init, 2, none)
theorem mkX8_init : Mk MX8_init := fun h => rfl
theorem mwX8_init : MW MX8_init 0 := ⟨tbG_of 958 (by decide +kernel) (by decide +kernel), tbG_of 59 (by decide +kernel) (by decide +kernel), by decide, by decide +kernel, by decide⟩
def MX8_digger : Mt := (8, yX8_digger, cX8_digger, 5, (some (.int)))
theorem mkX8_digger : Mk MX8_digger := fun h => rfl
theorem mwX8_digger : MW MX8_digger 4 := ⟨tbG_of 1065 (by decide +kernel) (by decide +kernel), tbG_of 59 (by decide +kernel) (by decide +kernel), by decide, by decide +kernel, by decide⟩
def MX8_in : Mt := (8, yX8_in, cX8_in, 3, (some (.boolean)))
theorem mkX8_in : Mk MX8_in := fun h => rfl
theorem mwX8_in : MW MX8_in 3 := ⟨tbG_of 1068 (by decide +kernel) (by decide +kernel), tbG_of 59 (by decide +kernel) (by decide +kernel), by decide, by decide +kernel, by decide⟩
def MX8_isBranch : Mt := (8, yX8_isBranch, cX8_isBranch, 1, (some (.boolean)))
theorem mkX8_isBranch : Mk MX8_isBranch := fun h => rfl
theorem mwX8_isBranch : MW MX8_isBranch 1 := ⟨tbG_of 1071 (by decide +kernel) (by decide +kernel), tbG_of 59 (by decide +kernel) (by decide +kernel), by decide, by decide +kernel, by decide⟩
def MX8_comes : Mt := (8, yX8_comes, cX8_comes, 6, (some (.int)))
theorem mkX8_comes : Mk MX8_comes := fun h => rfl
theorem mwX8_comes : MW MX8_comes 4 := ⟨tbG_of 1077 (by decide +kernel) (by decide +kernel), tbG_of 59 (by decide +kernel) (by decide +kernel), by decide, by decide +kernel, by decide⟩
def MX8_put : Mt := (8, yX8_put, cX8_put, 4, none)
theorem mkX8_put : Mk MX8_put := fun h => rfl
theorem mwX8_put : MW MX8_put 3 := ⟨tbG_of 1081 (by decide +kernel) (by decide +kernel), tbG_of 59 (by decide +kernel) (by decide +kernel), by decide, by decide +kernel, by decide⟩
def MX8_told : Mt := (8, yX8_told, cX8_told, 3, (some (.int)))
theorem mkX8_told : Mk MX8_told := fun h => rfl
theorem mwX8_told : MW MX8_told 2 := ⟨tbG_of 1085 (by decide +kernel) (by decide +kernel), tbG_of 59 (by decide +kernel) (by decide +kernel), by decide, by decide +kernel, by decide⟩
def MX8_isDigger : Mt := (8, yX8_isDigger, cX8_isDigger, 2, (some (.boolean)))
theorem mkX8_isDigger : Mk MX8_isDigger := fun h => rfl
theorem mwX8_isDigger : MW MX8_isDigger 1 := ⟨tbG_of 1089 (by decide +kernel) (by decide +kernel), tbG_of 59 (by decide +kernel) (by decide +kernel), by decide, by decide +kernel, by decide⟩
def MX8_of : Mt := (8, yX8_of, cX8_of, 3, (some (.int)))
theorem mkX8_of : Mk MX8_of := fun h => rfl
theorem mwX8_of : MW MX8_of 2 := ⟨tbG_of 1093 (by decide +kernel) (by decide +kernel), tbG_of 59 (by decide +kernel) (by decide +kernel), by decide, by decide +kernel, by decide⟩
def MX8_digsOf : Mt := (8, yX8_digsOf, cX8_digsOf, 3, (some (.int)))
theorem mkX8_digsOf : Mk MX8_digsOf := fun h => rfl
theorem mwX8_digsOf : MW MX8_digsOf 1 := ⟨tbG_of 1097 (by decide +kernel) (by decide +kernel), tbG_of 59 (by decide +kernel) (by decide +kernel), by decide, by decide +kernel, by decide⟩
def MX8_plainDig : Mt := (8, yX8_plainDig, cX8_plainDig, 4, (some (.int)))
theorem mkX8_plainDig : Mk MX8_plainDig := fun h => rfl
theorem mwX8_plainDig : MW MX8_plainDig 1 := ⟨tbG_of 1101 (by decide +kernel) (by decide +kernel), tbG_of 59 (by decide +kernel) (by decide +kernel), by decide, by decide +kernel, by decide⟩
def MX8_counts : Mt := (8, yX8_counts, cX8_counts, 3, (some (.int)))
theorem mkX8_counts : Mk MX8_counts := fun h => rfl
theorem mwX8_counts : MW MX8_counts 1 := ⟨tbG_of 1105 (by decide +kernel) (by decide +kernel), tbG_of 59 (by decide +kernel) (by decide +kernel), by decide, by decide +kernel, by decide⟩
def MX8_at : Mt := (8, yX8_at, cX8_at, 3, (some (.int)))
theorem mkX8_at : Mk MX8_at := fun h => rfl
theorem mwX8_at : MW MX8_at 2 := ⟨tbG_of 1109 (by decide +kernel) (by decide +kernel), tbG_of 59 (by decide +kernel) (by decide +kernel), by decide, by decide +kernel, by decide⟩
def MX8_ahead : Mt := (8, yX8_ahead, cX8_ahead, 2, (some (.int)))
theorem mkX8_ahead : Mk MX8_ahead := fun h => rfl
theorem mwX8_ahead : MW MX8_ahead 1 := ⟨tbG_of 1113 (by decide +kernel) (by decide +kernel), tbG_of 59 (by decide +kernel) (by decide +kernel), by decide, by decide +kernel, by decide⟩
def MX8_litIn : Mt := (8, yX8_litIn, cX8_litIn, 4, (some (.int)))
theorem mkX8_litIn : Mk MX8_litIn := fun h => rfl
theorem mwX8_litIn : MW MX8_litIn 1 := ⟨tbG_of 1117 (by decide +kernel) (by decide +kernel), tbG_of 59 (by decide +kernel) (by decide +kernel), by decide, by decide +kernel, by decide⟩
def MX8_bits : Mt := (8, yX8_bits, cX8_bits, 3, (some (.int)))
theorem mkX8_bits : Mk MX8_bits := fun h => rfl
theorem mwX8_bits : MW MX8_bits 1 := ⟨tbG_of 1120 (by decide +kernel) (by decide +kernel), tbG_of 59 (by decide +kernel) (by decide +kernel), by decide, by decide +kernel, by decide⟩
def MX8_worksOut : Mt := (8, yX8_worksOut, cX8_worksOut, 6, (some (.int)))
theorem mkX8_worksOut : Mk MX8_worksOut := fun h => rfl
theorem mwX8_worksOut : MW MX8_worksOut 1 := ⟨tbG_of 1124 (by decide +kernel) (by decide +kernel), tbG_of 59 (by decide +kernel) (by decide +kernel), by decide, by decide +kernel, by decide⟩
def MX8_two : Mt := (8, yX8_two, cX8_two, 3, (some (.int)))
theorem mkX8_two : Mk MX8_two := fun h => rfl
theorem mwX8_two : MW MX8_two 3 := ⟨tbG_of 1127 (by decide +kernel) (by decide +kernel), tbG_of 59 (by decide +kernel) (by decide +kernel), by decide, by decide +kernel, by decide⟩
def MX8_within : Mt := (8, yX8_within, cX8_within, 3, (some (.int)))
theorem mkX8_within : Mk MX8_within := fun h => rfl
theorem mwX8_within : MW MX8_within 3 := ⟨tbG_of 1130 (by decide +kernel) (by decide +kernel), tbG_of 59 (by decide +kernel) (by decide +kernel), by decide, by decide +kernel, by decide⟩
def MX8_isFarOff : Mt := (8, yX8_isFarOff, cX8_isFarOff, 2, (some (.boolean)))
theorem mkX8_isFarOff : Mk MX8_isFarOff := fun h => rfl
theorem mwX8_isFarOff : MW MX8_isFarOff 1 := ⟨tbG_of 1134 (by decide +kernel) (by decide +kernel), tbG_of 59 (by decide +kernel) (by decide +kernel), by decide, by decide +kernel, by decide⟩
def MX8_fellows : Mt := (8, yX8_fellows, cX8_fellows, 6, (some (.int)))
theorem mkX8_fellows : Mk MX8_fellows := fun h => rfl
theorem mwX8_fellows : MW MX8_fellows 1 := ⟨tbG_of 1138 (by decide +kernel) (by decide +kernel), tbG_of 59 (by decide +kernel) (by decide +kernel), by decide, by decide +kernel, by decide⟩
def MX8_burnsOf : Mt := (8, yX8_burnsOf, cX8_burnsOf, 2, (some (.int)))
theorem mkX8_burnsOf : Mk MX8_burnsOf := fun h => rfl
theorem mwX8_burnsOf : MW MX8_burnsOf 1 := ⟨tbG_of 1142 (by decide +kernel) (by decide +kernel), tbG_of 59 (by decide +kernel) (by decide +kernel), by decide, by decide +kernel, by decide⟩
def MX8_worthOf : Mt := (8, yX8_worthOf, cX8_worthOf, 3, (some (.int)))
theorem mkX8_worthOf : Mk MX8_worthOf := fun h => rfl
theorem mwX8_worthOf : MW MX8_worthOf 1 := ⟨tbG_of 1146 (by decide +kernel) (by decide +kernel), tbG_of 59 (by decide +kernel) (by decide +kernel), by decide, by decide +kernel, by decide⟩
def MX8_as : Mt := (8, yX8_as, cX8_as, 3, (some (.int)))
theorem mkX8_as : Mk MX8_as := fun h => rfl
theorem mwX8_as : MW MX8_as 2 := ⟨tbG_of 1150 (by decide +kernel) (by decide +kernel), tbG_of 59 (by decide +kernel) (by decide +kernel), by decide, by decide +kernel, by decide⟩
def MX8_isUnder : Mt := (8, yX8_isUnder, cX8_isUnder, 2, (some (.boolean)))
theorem mkX8_isUnder : Mk MX8_isUnder := fun h => rfl
theorem mwX8_isUnder : MW MX8_isUnder 2 := ⟨tbG_of 1153 (by decide +kernel) (by decide +kernel), tbG_of 59 (by decide +kernel) (by decide +kernel), by decide, by decide +kernel, by decide⟩
def MX8_turns : Mt := (8, yX8_turns, cX8_turns, 3, (some (.int)))
theorem mkX8_turns : Mk MX8_turns := fun h => rfl
theorem mwX8_turns : MW MX8_turns 2 := ⟨tbG_of 1158 (by decide +kernel) (by decide +kernel), tbG_of 59 (by decide +kernel) (by decide +kernel), by decide, by decide +kernel, by decide⟩
def MX8_swaps : Mt := (8, yX8_swaps, cX8_swaps, 4, (some (.int)))
theorem mkX8_swaps : Mk MX8_swaps := fun h => rfl
theorem mwX8_swaps : MW MX8_swaps 2 := ⟨tbG_of 1162 (by decide +kernel) (by decide +kernel), tbG_of 59 (by decide +kernel) (by decide +kernel), by decide, by decide +kernel, by decide⟩
def MX8_set : Mt := (8, yX8_set, cX8_set, 4, (some (.int)))
theorem mkX8_set : Mk MX8_set := fun h => rfl
theorem mwX8_set : MW MX8_set 3 := ⟨tbG_of 1166 (by decide +kernel) (by decide +kernel), tbG_of 59 (by decide +kernel) (by decide +kernel), by decide, by decide +kernel, by decide⟩
def MX8_sends : Mt := (8, yX8_sends, cX8_sends, 3, (some (.int)))
theorem mkX8_sends : Mk MX8_sends := fun h => rfl
theorem mwX8_sends : MW MX8_sends 2 := ⟨tbG_of 1170 (by decide +kernel) (by decide +kernel), tbG_of 59 (by decide +kernel) (by decide +kernel), by decide, by decide +kernel, by decide⟩
def MX8_branch : Mt := (8, yX8_branch, cX8_branch, 4, (some (.int)))
theorem mkX8_branch : Mk MX8_branch := fun h => rfl
theorem mwX8_branch : MW MX8_branch 3 := ⟨tbG_of 1174 (by decide +kernel) (by decide +kernel), tbG_of 59 (by decide +kernel) (by decide +kernel), by decide, by decide +kernel, by decide⟩
def MX8_mayBe : Mt := (8, yX8_mayBe, cX8_mayBe, 4, (some (.boolean)))
theorem mkX8_mayBe : Mk MX8_mayBe := fun h => rfl
theorem mwX8_mayBe : MW MX8_mayBe 3 := ⟨tbG_of 1178 (by decide +kernel) (by decide +kernel), tbG_of 59 (by decide +kernel) (by decide +kernel), by decide, by decide +kernel, by decide⟩
def MX8_branchOf : Mt := (8, yX8_branchOf, cX8_branchOf, 3, (some (.int)))
theorem mkX8_branchOf : Mk MX8_branchOf := fun h => rfl
theorem mwX8_branchOf : MW MX8_branchOf 2 := ⟨tbG_of 1182 (by decide +kernel) (by decide +kernel), tbG_of 59 (by decide +kernel) (by decide +kernel), by decide, by decide +kernel, by decide⟩
def MX8_diggersIn : Mt := (8, yX8_diggersIn, cX8_diggersIn, 4, (some (.int)))
theorem mkX8_diggersIn : Mk MX8_diggersIn := fun h => rfl
theorem mwX8_diggersIn : MW MX8_diggersIn 1 := ⟨tbG_of 1186 (by decide +kernel) (by decide +kernel), tbG_of 59 (by decide +kernel) (by decide +kernel), by decide, by decide +kernel, by decide⟩
def MX8_allDigs : Mt := (8, yX8_allDigs, cX8_allDigs, 5, (some (.int)))
theorem mkX8_allDigs : Mk MX8_allDigs := fun h => rfl
theorem mwX8_allDigs : MW MX8_allDigs 1 := ⟨tbG_of 1190 (by decide +kernel) (by decide +kernel), tbG_of 59 (by decide +kernel) (by decide +kernel), by decide, by decide +kernel, by decide⟩
def MX8_rule : Mt := (8, yX8_rule, cX8_rule, 3, (some (.int)))
theorem mkX8_rule : Mk MX8_rule := fun h => rfl
theorem mwX8_rule : MW MX8_rule 2 := ⟨tbG_of 1194 (by decide +kernel) (by decide +kernel), tbG_of 59 (by decide +kernel) (by decide +kernel), by decide, by decide +kernel, by decide⟩
def MX8_deal : Mt := (8, yX8_deal, cX8_deal, 7, (some (.int)))
theorem mkX8_deal : Mk MX8_deal := fun h => rfl
theorem mwX8_deal : MW MX8_deal 1 := ⟨tbG_of 1198 (by decide +kernel) (by decide +kernel), tbG_of 59 (by decide +kernel) (by decide +kernel), by decide, by decide +kernel, by decide⟩
def MX8_draw : Mt := (8, yX8_draw, cX8_draw, 1, (some (.int)))
theorem mkX8_draw : Mk MX8_draw := fun h => rfl
theorem mwX8_draw : MW MX8_draw 0 := ⟨tbG_of 1202 (by decide +kernel) (by decide +kernel), tbG_of 59 (by decide +kernel) (by decide +kernel), by decide, by decide +kernel, by decide⟩
def MX8_seed : Mt := (8, yX8_seed, cX8_seed, 2, (some (.int)))
theorem mkX8_seed : Mk MX8_seed := fun h => rfl
theorem mwX8_seed : MW MX8_seed 1 := ⟨tbG_of 1207 (by decide +kernel) (by decide +kernel), tbG_of 59 (by decide +kernel) (by decide +kernel), by decide, by decide +kernel, by decide⟩
def MX8_nights : Mt := (8, yX8_nights, cX8_nights, 3, (some (.int)))
theorem mkX8_nights : Mk MX8_nights := fun h => rfl
theorem mwX8_nights : MW MX8_nights 1 := ⟨tbG_of 1211 (by decide +kernel) (by decide +kernel), tbG_of 59 (by decide +kernel) (by decide +kernel), by decide, by decide +kernel, by decide⟩
def MX8_sums : Mt := (8, yX8_sums, cX8_sums, 4, (some (.int)))
theorem mkX8_sums : Mk MX8_sums := fun h => rfl
theorem mwX8_sums : MW MX8_sums 1 := ⟨tbG_of 1215 (by decide +kernel) (by decide +kernel), tbG_of 59 (by decide +kernel) (by decide +kernel), by decide, by decide +kernel, by decide⟩
def MX8_goesOn : Mt := (8, yX8_goesOn, cX8_goesOn, 3, none)
theorem mkX8_goesOn : Mk MX8_goesOn := fun h => rfl
theorem mwX8_goesOn : MW MX8_goesOn 1 := ⟨tbG_of 1219 (by decide +kernel) (by decide +kernel), tbG_of 59 (by decide +kernel) (by decide +kernel), by decide, by decide +kernel, by decide⟩
def MX8_night : Mt := (8, yX8_night, cX8_night, 2, none)
theorem mkX8_night : Mk MX8_night := fun h => rfl
theorem mwX8_night : MW MX8_night 0 := ⟨tbG_of 1223 (by decide +kernel) (by decide +kernel), tbG_of 59 (by decide +kernel) (by decide +kernel), by decide, by decide +kernel, by decide⟩
def MX8_digs : Mt := (8, yX8_digs, cX8_digs, 5, none)
theorem mkX8_digs : Mk MX8_digs := fun h => rfl
theorem mwX8_digs : MW MX8_digs 1 := ⟨tbG_of 1227 (by decide +kernel) (by decide +kernel), tbG_of 59 (by decide +kernel) (by decide +kernel), by decide, by decide +kernel, by decide⟩
def MX8_warder : Mt := (8, yX8_warder, cX8_warder, 4, none)
theorem mkX8_warder : Mk MX8_warder := fun h => rfl
theorem mwX8_warder : MW MX8_warder 1 := ⟨tbG_of 1231 (by decide +kernel) (by decide +kernel), tbG_of 59 (by decide +kernel) (by decide +kernel), by decide, by decide +kernel, by decide⟩
def MX8_below : Mt := (8, yX8_below, cX8_below, 2, (some (.int)))
theorem mkX8_below : Mk MX8_below := fun h => rfl
theorem mwX8_below : MW MX8_below 1 := ⟨tbG_of 1235 (by decide +kernel) (by decide +kernel), tbG_of 59 (by decide +kernel) (by decide +kernel), by decide, by decide +kernel, by decide⟩
def MX8_peopled : Mt := (8, yX8_peopled, cX8_peopled, 3, (some (.int)))
theorem mkX8_peopled : Mk MX8_peopled := fun h => rfl
theorem mwX8_peopled : MW MX8_peopled 0 := ⟨tbG_of 1239 (by decide +kernel) (by decide +kernel), tbG_of 59 (by decide +kernel) (by decide +kernel), by decide, by decide +kernel, by decide⟩
def MX8_front : Mt := (8, yX8_front, cX8_front, 3, (some (.int)))
theorem mkX8_front : Mk MX8_front := fun h => rfl
theorem mwX8_front : MW MX8_front 0 := ⟨tbG_of 1243 (by decide +kernel) (by decide +kernel), tbG_of 59 (by decide +kernel) (by decide +kernel), by decide, by decide +kernel, by decide⟩
def MX8_behind : Mt := (8, yX8_behind, cX8_behind, 4, (some (.int)))
theorem mkX8_behind : Mk MX8_behind := fun h => rfl
theorem mwX8_behind : MW MX8_behind 2 := ⟨tbG_of 1247 (by decide +kernel) (by decide +kernel), tbG_of 59 (by decide +kernel) (by decide +kernel), by decide, by decide +kernel, by decide⟩
def MX8_thinks : Mt := (8, yX8_thinks, cX8_thinks, 1, none)
theorem mkX8_thinks : Mk MX8_thinks := fun h => rfl
theorem mwX8_thinks : MW MX8_thinks 0 := ⟨tbG_of 1251 (by decide +kernel) (by decide +kernel), tbG_of 59 (by decide +kernel) (by decide +kernel), by decide, by decide +kernel, by decide⟩
def MX8_copyAll : Mt := (8, yX8_copyAll, cX8_copyAll, 3, none)
theorem mkX8_copyAll : Mk MX8_copyAll := fun h => rfl
theorem mwX8_copyAll : MW MX8_copyAll 2 := ⟨tbG_of 1254 (by decide +kernel) (by decide +kernel), tbG_of 59 (by decide +kernel) (by decide +kernel), by decide, by decide +kernel, by decide⟩
def MX8_putsBack : Mt := (8, yX8_putsBack, cX8_putsBack, 1, none)
theorem mkX8_putsBack : Mk MX8_putsBack := fun h => rfl
theorem mwX8_putsBack : MW MX8_putsBack 0 := ⟨tbG_of 1258 (by decide +kernel) (by decide +kernel), tbG_of 59 (by decide +kernel) (by decide +kernel), by decide, by decide +kernel, by decide⟩
def MX8_reaches : Mt := (8, yX8_reaches, cX8_reaches, 4, (some (.int)))
theorem mkX8_reaches : Mk MX8_reaches := fun h => rfl
theorem mwX8_reaches : MW MX8_reaches 2 := ⟨tbG_of 1262 (by decide +kernel) (by decide +kernel), tbG_of 59 (by decide +kernel) (by decide +kernel), by decide, by decide +kernel, by decide⟩
def MX8_leaves : Mt := (8, yX8_leaves, cX8_leaves, 4, (some (.int)))
theorem mkX8_leaves : Mk MX8_leaves := fun h => rfl
theorem mwX8_leaves : MW MX8_leaves 1 := ⟨tbG_of 1267 (by decide +kernel) (by decide +kernel), tbG_of 59 (by decide +kernel) (by decide +kernel), by decide, by decide +kernel, by decide⟩
def MX8_light : Mt := (8, yX8_light, cX8_light, 6, (some (.int)))
theorem mkX8_light : Mk MX8_light := fun h => rfl
theorem mwX8_light : MW MX8_light 2 := ⟨tbG_of 1271 (by decide +kernel) (by decide +kernel), tbG_of 59 (by decide +kernel) (by decide +kernel), by decide, by decide +kernel, by decide⟩
def MX8_isHigh : Mt := (8, yX8_isHigh, cX8_isHigh, 5, (some (.boolean)))
theorem mkX8_isHigh : Mk MX8_isHigh := fun h => rfl
theorem mwX8_isHigh : MW MX8_isHigh 3 := ⟨tbG_of 1275 (by decide +kernel) (by decide +kernel), tbG_of 59 (by decide +kernel) (by decide +kernel), by decide, by decide +kernel, by decide⟩
def MX8_wax : Mt := (8, yX8_wax, cX8_wax, 5, (some (.int)))
theorem mkX8_wax : Mk MX8_wax := fun h => rfl
theorem mwX8_wax : MW MX8_wax 3 := ⟨tbG_of 1279 (by decide +kernel) (by decide +kernel), tbG_of 59 (by decide +kernel) (by decide +kernel), by decide, by decide +kernel, by decide⟩
def MX8_earthOn : Mt := (8, yX8_earthOn, cX8_earthOn, 4, (some (.int)))
theorem mkX8_earthOn : Mk MX8_earthOn := fun h => rfl
theorem mwX8_earthOn : MW MX8_earthOn 2 := ⟨tbG_of 1283 (by decide +kernel) (by decide +kernel), tbG_of 59 (by decide +kernel) (by decide +kernel), by decide, by decide +kernel, by decide⟩
def MX8_sent : Mt := (8, yX8_sent, cX8_sent, 4, (some (.int)))
theorem mkX8_sent : Mk MX8_sent := fun h => rfl
theorem mwX8_sent : MW MX8_sent 3 := ⟨tbG_of 1287 (by decide +kernel) (by decide +kernel), tbG_of 59 (by decide +kernel) (by decide +kernel), by decide, by decide +kernel, by decide⟩
def MX8_bestOf : Mt := (8, yX8_bestOf, cX8_bestOf, 10, (some (.int)))
theorem mkX8_bestOf : Mk MX8_bestOf := fun h => rfl
theorem mwX8_bestOf : MW MX8_bestOf 5 := ⟨tbG_of 1291 (by decide +kernel) (by decide +kernel), tbG_of 59 (by decide +kernel) (by decide +kernel), by decide, by decide +kernel, by decide⟩
def MX8_becomes : Mt := (8, yX8_becomes, cX8_becomes, 4, (some (.int)))
theorem mkX8_becomes : Mk MX8_becomes := fun h => rfl
theorem mwX8_becomes : MW MX8_becomes 3 := ⟨tbG_of 1295 (by decide +kernel) (by decide +kernel), tbG_of 59 (by decide +kernel) (by decide +kernel), by decide, by decide +kernel, by decide⟩
def MX8_like : Mt := (8, yX8_like, cX8_like, 6, (some (.int)))
theorem mkX8_like : Mk MX8_like := fun h => rfl
theorem mwX8_like : MW MX8_like 2 := ⟨tbG_of 1299 (by decide +kernel) (by decide +kernel), tbG_of 59 (by decide +kernel) (by decide +kernel), by decide, by decide +kernel, by decide⟩
def MX8_isSheet : Mt := (8, yX8_isSheet, cX8_isSheet, 1, (some (.boolean)))
theorem mkX8_isSheet : Mk MX8_isSheet := fun h => rfl
theorem mwX8_isSheet : MW MX8_isSheet 1 := ⟨tbG_of 1302 (by decide +kernel) (by decide +kernel), tbG_of 59 (by decide +kernel) (by decide +kernel), by decide, by decide +kernel, by decide⟩
def MX8_off : Mt := (8, yX8_off, cX8_off, 1, (some (.int)))
theorem mkX8_off : Mk MX8_off := fun h => rfl
theorem mwX8_off : MW MX8_off 1 := ⟨tbG_of 1306 (by decide +kernel) (by decide +kernel), tbG_of 59 (by decide +kernel) (by decide +kernel), by decide, by decide +kernel, by decide⟩
def MX8_fee : Mt := (8, yX8_fee, cX8_fee, 2, (some (.int)))
theorem mkX8_fee : Mk MX8_fee := fun h => rfl
theorem mwX8_fee : MW MX8_fee 0 := ⟨tbG_of 1310 (by decide +kernel) (by decide +kernel), tbG_of 59 (by decide +kernel) (by decide +kernel), by decide, by decide +kernel, by decide⟩
def MX8_fine : Mt := (8, yX8_fine, cX8_fine, 3, (some (.int)))
theorem mkX8_fine : Mk MX8_fine := fun h => rfl
theorem mwX8_fine : MW MX8_fine 1 := ⟨tbG_of 1314 (by decide +kernel) (by decide +kernel), tbG_of 59 (by decide +kernel) (by decide +kernel), by decide, by decide +kernel, by decide⟩
def MX8_feed : Mt := (8, yX8_feed, cX8_feed, 6, (some (.int)))
theorem mkX8_feed : Mk MX8_feed := fun h => rfl
theorem mwX8_feed : MW MX8_feed 3 := ⟨tbG_of 1318 (by decide +kernel) (by decide +kernel), tbG_of 59 (by decide +kernel) (by decide +kernel), by decide, by decide +kernel, by decide⟩
def MX8_trim : Mt := (8, yX8_trim, cX8_trim, 2, (some (.int)))
theorem mkX8_trim : Mk MX8_trim := fun h => rfl
theorem mwX8_trim : MW MX8_trim 1 := ⟨tbG_of 1322 (by decide +kernel) (by decide +kernel), tbG_of 59 (by decide +kernel) (by decide +kernel), by decide, by decide +kernel, by decide⟩
def MX8_text : Mt := (8, yX8_text, cX8_text, 4, (some (.int)))
theorem mkX8_text : Mk MX8_text := fun h => rfl
theorem mwX8_text : MW MX8_text 0 := ⟨tbG_of 1326 (by decide +kernel) (by decide +kernel), tbG_of 59 (by decide +kernel) (by decide +kernel), by decide, by decide +kernel, by decide⟩
def MX8_go : Mt := (8, yX8_go, cX8_go, 2, none)
theorem mkX8_go : Mk MX8_go := fun h => rfl
theorem mwX8_go : MW MX8_go 0 := ⟨tbG_of 1330 (by decide +kernel) (by decide +kernel), tbG_of 59 (by decide +kernel) (by decide +kernel), by decide, by decide +kernel, by decide⟩
def MX8_isLetter : Mt := (8, yX8_isLetter, cX8_isLetter, 2, (some (.boolean)))
theorem mkX8_isLetter : Mk MX8_isLetter := fun h => rfl
theorem mwX8_isLetter : MW MX8_isLetter 1 := ⟨tbG_of 1334 (by decide +kernel) (by decide +kernel), tbG_of 59 (by decide +kernel) (by decide +kernel), by decide, by decide +kernel, by decide⟩
def MX8_isFigure : Mt := (8, yX8_isFigure, cX8_isFigure, 2, (some (.boolean)))
theorem mkX8_isFigure : Mk MX8_isFigure := fun h => rfl
theorem mwX8_isFigure : MW MX8_isFigure 1 := ⟨tbG_of 1338 (by decide +kernel) (by decide +kernel), tbG_of 59 (by decide +kernel) (by decide +kernel), by decide, by decide +kernel, by decide⟩
def MX8_takesKey : Mt := (8, yX8_takesKey, cX8_takesKey, 5, (some (.boolean)))
theorem mkX8_takesKey : Mk MX8_takesKey := fun h => rfl
theorem mwX8_takesKey : MW MX8_takesKey 0 := ⟨tbG_of 1342 (by decide +kernel) (by decide +kernel), tbG_of 59 (by decide +kernel) (by decide +kernel), by decide, by decide +kernel, by decide⟩
def MX8_takesE : Mt := (8, yX8_takesE, cX8_takesE, 5, (some (.boolean)))
theorem mkX8_takesE : Mk MX8_takesE := fun h => rfl
theorem mwX8_takesE : MW MX8_takesE 0 := ⟨tbG_of 1346 (by decide +kernel) (by decide +kernel), tbG_of 59 (by decide +kernel) (by decide +kernel), by decide, by decide +kernel, by decide⟩
def MX8_takesPart : Mt := (8, yX8_takesPart, cX8_takesPart, 2, (some (.boolean)))
theorem mkX8_takesPart : Mk MX8_takesPart := fun h => rfl
theorem mwX8_takesPart : MW MX8_takesPart 0 := ⟨tbG_of 1350 (by decide +kernel) (by decide +kernel), tbG_of 59 (by decide +kernel) (by decide +kernel), by decide, by decide +kernel, by decide⟩
def MX8_nameOf : Mt := (8, yX8_nameOf, cX8_nameOf, 2, (some (.int)))
theorem mkX8_nameOf : Mk MX8_nameOf := fun h => rfl
theorem mwX8_nameOf : MW MX8_nameOf 1 := ⟨tbG_of 1354 (by decide +kernel) (by decide +kernel), tbG_of 59 (by decide +kernel) (by decide +kernel), by decide, by decide +kernel, by decide⟩
def MX8_settle : Mt := (8, yX8_settle, cX8_settle, 2, none)
theorem mkX8_settle : Mk MX8_settle := fun h => rfl
theorem mwX8_settle : MW MX8_settle 1 := ⟨tbG_of 1358 (by decide +kernel) (by decide +kernel), tbG_of 59 (by decide +kernel) (by decide +kernel), by decide, by decide +kernel, by decide⟩
def MX8_rank : Mt := (8, yX8_rank, cX8_rank, 1, (some (.int)))
theorem mkX8_rank : Mk MX8_rank := fun h => rfl
theorem mwX8_rank : MW MX8_rank 1 := ⟨tbG_of 1361 (by decide +kernel) (by decide +kernel), tbG_of 59 (by decide +kernel) (by decide +kernel), by decide, by decide +kernel, by decide⟩
def MX8_notsOpen : Mt := (8, yX8_notsOpen, cX8_notsOpen, 3, (some (.int)))
theorem mkX8_notsOpen : Mk MX8_notsOpen := fun h => rfl
theorem mwX8_notsOpen : MW MX8_notsOpen 0 := ⟨tbG_of 1365 (by decide +kernel) (by decide +kernel), tbG_of 59 (by decide +kernel) (by decide +kernel), by decide, by decide +kernel, by decide⟩
def MX8_signHere : Mt := (8, yX8_signHere, cX8_signHere, 1, (some (.int)))
theorem mkX8_signHere : Mk MX8_signHere := fun h => rfl
theorem mwX8_signHere : MW MX8_signHere 0 := ⟨tbG_of 1369 (by decide +kernel) (by decide +kernel), tbG_of 59 (by decide +kernel) (by decide +kernel), by decide, by decide +kernel, by decide⟩
def MX8_textTold : Mt := (8, yX8_textTold, cX8_textTold, 3, (some (.int)))
theorem mkX8_textTold : Mk MX8_textTold := fun h => rfl
theorem mwX8_textTold : MW MX8_textTold 2 := ⟨tbG_of 1373 (by decide +kernel) (by decide +kernel), tbG_of 59 (by decide +kernel) (by decide +kernel), by decide, by decide +kernel, by decide⟩
def MX8_why : Mt := (8, yX8_why, cX8_why, 3, (some (.int)))
theorem mkX8_why : Mk MX8_why := fun h => rfl
theorem mwX8_why : MW MX8_why 1 := ⟨tbG_of 1377 (by decide +kernel) (by decide +kernel), tbG_of 59 (by decide +kernel) (by decide +kernel), by decide, by decide +kernel, by decide⟩
def MX8_sheet : Mt := (8, yX8_sheet, cX8_sheet, 5, (some (.int)))
theorem mkX8_sheet : Mk MX8_sheet := fun h => rfl
theorem mwX8_sheet : MW MX8_sheet 3 := ⟨tbG_of 1381 (by decide +kernel) (by decide +kernel), tbG_of 59 (by decide +kernel) (by decide +kernel), by decide, by decide +kernel, by decide⟩
def MX8_mark : Mt := (8, yX8_mark, cX8_mark, 4, (some (.int)))
theorem mkX8_mark : Mk MX8_mark := fun h => rfl
theorem mwX8_mark : MW MX8_mark 3 := ⟨tbG_of 1386 (by decide +kernel) (by decide +kernel), tbG_of 59 (by decide +kernel) (by decide +kernel), by decide, by decide +kernel, by decide⟩
def MX8_pour : Mt := (8, yX8_pour, cX8_pour, 6, (some (.int)))
theorem mkX8_pour : Mk MX8_pour := fun h => rfl
theorem mwX8_pour : MW MX8_pour 1 := ⟨tbG_of 1393 (by decide +kernel) (by decide +kernel), tbG_of 59 (by decide +kernel) (by decide +kernel), by decide, by decide +kernel, by decide⟩
def MX8_reads : Mt := (8, yX8_reads, cX8_reads, 4, (some (.int)))
theorem mkX8_reads : Mk MX8_reads := fun h => rfl
theorem mwX8_reads : MW MX8_reads 1 := ⟨tbG_of 1397 (by decide +kernel) (by decide +kernel), tbG_of 59 (by decide +kernel) (by decide +kernel), by decide, by decide +kernel, by decide⟩
def MX8_copy : Mt := (8, yX8_copy, cX8_copy, 7, (some (.int)))
theorem mkX8_copy : Mk MX8_copy := fun h => rfl
theorem mwX8_copy : MW MX8_copy 5 := ⟨tbG_of 1401 (by decide +kernel) (by decide +kernel), tbG_of 59 (by decide +kernel) (by decide +kernel), by decide, by decide +kernel, by decide⟩
def MX8_lay : Mt := (8, yX8_lay, cX8_lay, 6, (some (.int)))
theorem mkX8_lay : Mk MX8_lay := fun h => rfl
theorem mwX8_lay : MW MX8_lay 3 := ⟨tbG_of 1405 (by decide +kernel) (by decide +kernel), tbG_of 59 (by decide +kernel) (by decide +kernel), by decide, by decide +kernel, by decide⟩
def MX8_isSlot : Mt := (8, yX8_isSlot, cX8_isSlot, 1, (some (.boolean)))
theorem mkX8_isSlot : Mk MX8_isSlot := fun h => rfl
theorem mwX8_isSlot : MW MX8_isSlot 1 := ⟨tbG_of 1408 (by decide +kernel) (by decide +kernel), tbG_of 59 (by decide +kernel) (by decide +kernel), by decide, by decide +kernel, by decide⟩
def MX8_ask : Mt := (8, yX8_ask, cX8_ask, 3, (some (.int)))
theorem mkX8_ask : Mk MX8_ask := fun h => rfl
theorem mwX8_ask : MW MX8_ask 2 := ⟨tbG_of 1412 (by decide +kernel) (by decide +kernel), tbG_of 59 (by decide +kernel) (by decide +kernel), by decide, by decide +kernel, by decide⟩
def MX8_item : Mt := (8, yX8_item, cX8_item, 4, (some (.int)))
theorem mkX8_item : Mk MX8_item := fun h => rfl
theorem mwX8_item : MW MX8_item 2 := ⟨tbG_of 1416 (by decide +kernel) (by decide +kernel), tbG_of 59 (by decide +kernel) (by decide +kernel), by decide, by decide +kernel, by decide⟩
def MX8_rest : Mt := (8, yX8_rest, cX8_rest, 3, (some (.int)))
theorem mkX8_rest : Mk MX8_rest := fun h => rfl
theorem mwX8_rest : MW MX8_rest 2 := ⟨tbG_of 1420 (by decide +kernel) (by decide +kernel), tbG_of 59 (by decide +kernel) (by decide +kernel), by decide, by decide +kernel, by decide⟩
def MX8_tell : Mt := (8, yX8_tell, cX8_tell, 2, (some (.int)))
theorem mkX8_tell : Mk MX8_tell := fun h => rfl
theorem mwX8_tell : MW MX8_tell 1 := ⟨tbG_of 1425 (by decide +kernel) (by decide +kernel), tbG_of 59 (by decide +kernel) (by decide +kernel), by decide, by decide +kernel, by decide⟩
def MX8_check : Mt := (8, yX8_check, cX8_check, 6, (some (.int)))
theorem mkX8_check : Mk MX8_check := fun h => rfl
theorem mwX8_check : MW MX8_check 1 := ⟨tbG_of 1429 (by decide +kernel) (by decide +kernel), tbG_of 59 (by decide +kernel) (by decide +kernel), by decide, by decide +kernel, by decide⟩
def MX8_allDug : Mt := (8, yX8_allDug, cX8_allDug, 3, (some (.int)))
theorem mkX8_allDug : Mk MX8_allDug := fun h => rfl
theorem mwX8_allDug : MW MX8_allDug 0 := ⟨tbG_of 1433 (by decide +kernel) (by decide +kernel), tbG_of 59 (by decide +kernel) (by decide +kernel), by decide, by decide +kernel, by decide⟩
def MX8_keep : Mt := (8, yX8_keep, cX8_keep, 1, (some (.int)))
theorem mkX8_keep : Mk MX8_keep := fun h => rfl
theorem mwX8_keep : MW MX8_keep 0 := ⟨tbG_of 1437 (by decide +kernel) (by decide +kernel), tbG_of 59 (by decide +kernel) (by decide +kernel), by decide, by decide +kernel, by decide⟩
def MX8_back : Mt := (8, yX8_back, cX8_back, 1, (some (.int)))
theorem mkX8_back : Mk MX8_back := fun h => rfl
theorem mwX8_back : MW MX8_back 0 := ⟨tbG_of 1441 (by decide +kernel) (by decide +kernel), tbG_of 59 (by decide +kernel) (by decide +kernel), by decide, by decide +kernel, by decide⟩
def MX8_count : Mt := (8, yX8_count, cX8_count, 2, (some (.int)))
theorem mkX8_count : Mk MX8_count := fun h => rfl
theorem mwX8_count : MW MX8_count 1 := ⟨tbG_of 1445 (by decide +kernel) (by decide +kernel), tbG_of 59 (by decide +kernel) (by decide +kernel), by decide, by decide +kernel, by decide⟩
theorem kiL_9 : KI RL 9 MX7_init 0 := ⟨mwX7_init, tbG_of 71 (by decide +kernel) (by decide +kernel), rfl, rfl, Or.inl (tbG_of 70 (by decide +kernel) (by decide +kernel))⟩
theorem kiX7_9 : KI RX7 9 MX6_init 0 := ⟨mwX6_init, tbG_of 79 (by decide +kernel) (by decide +kernel), rfl, rfl, Or.inl (tbG_of 78 (by decide +kernel) (by decide +kernel))⟩
theorem kiX7_18 : KI RX7 18 MX3_init 0 := ⟨mwX3_init, tbG_of 107 (by decide +kernel) (by decide +kernel), rfl, rfl, Or.inl (tbG_of 106 (by decide +kernel) (by decide +kernel))⟩
theorem kiX7_25 : KI RX7 25 MX2_init 1 := ⟨mwX2_init, tbG_of 156 (by decide +kernel) (by decide +kernel), rfl, rfl, Or.inl (tbG_of 155 (by decide +kernel) (by decide +kernel))⟩
theorem kiX2_21 : KI RX2 21 MX0_init 0 := ⟨mwX0_init, tbG_of 163 (by decide +kernel) (by decide +kernel), rfl, rfl, Or.inl (tbG_of 162 (by decide +kernel) (by decide +kernel))⟩
theorem kiX7_44 : KI RX7 44 MX4_init 0 := ⟨mwX4_init, tbG_of 268 (by decide +kernel) (by decide +kernel), rfl, rfl, Or.inl (tbG_of 267 (by decide +kernel) (by decide +kernel))⟩
theorem kiX7_51 : KI RX7 51 MX5_init 0 := ⟨mwX5_init, tbG_of 288 (by decide +kernel) (by decide +kernel), rfl, rfl, Or.inl (tbG_of 287 (by decide +kernel) (by decide +kernel))⟩
theorem kiX5_18 : KI RX5 18 MX4_init 0 := ⟨mwX4_init, tbG_of 268 (by decide +kernel) (by decide +kernel), rfl, rfl, Or.inl (tbG_of 294 (by decide +kernel) (by decide +kernel))⟩
theorem kvL_13 : KV RL 13 MX7_digger 7 4 := ⟨mwX7_digger, tbG_of 342 (by decide +kernel) (by decide +kernel), tbG_of 343 (by decide +kernel) (by decide +kernel), tbG_of 341 (by decide +kernel) (by decide +kernel), by decide, TX7, _, rfl⟩
theorem ksX7_64 : KS RX7 64 MX7_isKind 1 := ⟨mwX7_isKind, tbG_of 346 (by decide +kernel) (by decide +kernel), Or.inl (tbG_of 345 (by decide +kernel) (by decide +kernel))⟩
theorem ksX7_68 : KS RX7 68 MX7_within 3 := ⟨mwX7_within, tbG_of 349 (by decide +kernel) (by decide +kernel), Or.inl (tbG_of 348 (by decide +kernel) (by decide +kernel))⟩
theorem ksX7_72 : KS RX7 72 MX7_isBranch 1 := ⟨mwX7_isBranch, tbG_of 352 (by decide +kernel) (by decide +kernel), Or.inl (tbG_of 351 (by decide +kernel) (by decide +kernel))⟩
theorem kvX7_79 : KV RX7 79 MX2_add 2 4 := ⟨mwX2_add, tbG_of 356 (by decide +kernel) (by decide +kernel), tbG_of 357 (by decide +kernel) (by decide +kernel), tbG_of 355 (by decide +kernel) (by decide +kernel), by decide, TX2, _, rfl⟩
theorem kvL_18 : KV RL 18 MX7_told 7 2 := ⟨mwX7_told, tbG_of 362 (by decide +kernel) (by decide +kernel), tbG_of 363 (by decide +kernel) (by decide +kernel), tbG_of 361 (by decide +kernel) (by decide +kernel), by decide, TX7, _, rfl⟩
theorem kvX7_84 : KV RX7 84 MX7_isDigger 7 1 := ⟨mwX7_isDigger, tbG_of 367 (by decide +kernel) (by decide +kernel), tbG_of 0 (by decide +kernel) (by decide +kernel), tbG_of 365 (by decide +kernel) (by decide +kernel), by decide, TX7, _, rfl⟩
theorem kvX7_108 : KV RX7 108 MX2_digs 2 1 := ⟨mwX2_digs, tbG_of 370 (by decide +kernel) (by decide +kernel), tbG_of 371 (by decide +kernel) (by decide +kernel), tbG_of 369 (by decide +kernel) (by decide +kernel), by decide, TX2, _, rfl⟩
theorem kvX2_151 : KV RX2 151 MX2_plain 2 1 := ⟨mwX2_plain, tbG_of 374 (by decide +kernel) (by decide +kernel), tbG_of 375 (by decide +kernel) (by decide +kernel), tbG_of 373 (by decide +kernel) (by decide +kernel), by decide, TX2, _, rfl⟩
theorem kvX2_168 : KV RX2 168 MX6_put 6 2 := ⟨mwX6_put, tbG_of 387 (by decide +kernel) (by decide +kernel), tbG_of 388 (by decide +kernel) (by decide +kernel), tbG_of 386 (by decide +kernel) (by decide +kernel), by decide, TX6, _, rfl⟩
theorem kvX2_162 : KV RX2 162 MX0_ahead 0 0 := ⟨mwX0_ahead, tbG_of 391 (by decide +kernel) (by decide +kernel), tbG_of 392 (by decide +kernel) (by decide +kernel), tbG_of 390 (by decide +kernel) (by decide +kernel), by decide, TX0, _, rfl⟩
theorem kvX2_172 : KV RX2 172 MX2_litIn 2 1 := ⟨mwX2_litIn, tbG_of 395 (by decide +kernel) (by decide +kernel), tbG_of 396 (by decide +kernel) (by decide +kernel), tbG_of 394 (by decide +kernel) (by decide +kernel), by decide, TX2, _, rfl⟩
theorem kvX2_116 : KV RX2 116 MX1_isLit 1 0 := ⟨mwX1_isLit, tbG_of 399 (by decide +kernel) (by decide +kernel), tbG_of 400 (by decide +kernel) (by decide +kernel), tbG_of 398 (by decide +kernel) (by decide +kernel), by decide, TX1, _, rfl⟩
theorem kvX2_175 : KV RX2 175 MX6_gives 6 1 := ⟨mwX6_gives, tbG_of 403 (by decide +kernel) (by decide +kernel), tbG_of 404 (by decide +kernel) (by decide +kernel), tbG_of 402 (by decide +kernel) (by decide +kernel), by decide, TX6, _, rfl⟩
theorem ksX6_43 : KS RX6 43 MX6_joined 3 := ⟨mwX6_joined, tbG_of 407 (by decide +kernel) (by decide +kernel), Or.inl (tbG_of 406 (by decide +kernel) (by decide +kernel))⟩
theorem kvX2_155 : KV RX2 155 MX2_isFar 2 1 := ⟨mwX2_isFar, tbG_of 410 (by decide +kernel) (by decide +kernel), tbG_of 411 (by decide +kernel) (by decide +kernel), tbG_of 409 (by decide +kernel) (by decide +kernel), by decide, TX2, _, rfl⟩
theorem kvX2_159 : KV RX2 159 MX2_matesOf 2 1 := ⟨mwX2_matesOf, tbG_of 414 (by decide +kernel) (by decide +kernel), tbG_of 415 (by decide +kernel) (by decide +kernel), tbG_of 413 (by decide +kernel) (by decide +kernel), by decide, TX2, _, rfl⟩
theorem kvX2_181 : KV RX2 181 MX1_isOne 1 1 := ⟨mwX1_isOne, tbG_of 418 (by decide +kernel) (by decide +kernel), tbG_of 419 (by decide +kernel) (by decide +kernel), tbG_of 417 (by decide +kernel) (by decide +kernel), by decide, TX1, _, rfl⟩
theorem kvX7_112 : KV RX7 112 MX2_burns 2 1 := ⟨mwX2_burns, tbG_of 424 (by decide +kernel) (by decide +kernel), tbG_of 425 (by decide +kernel) (by decide +kernel), tbG_of 423 (by decide +kernel) (by decide +kernel), by decide, TX2, _, rfl⟩
theorem kvX7_115 : KV RX7 115 MX1_worth 1 0 := ⟨mwX1_worth, tbG_of 428 (by decide +kernel) (by decide +kernel), tbG_of 429 (by decide +kernel) (by decide +kernel), tbG_of 427 (by decide +kernel) (by decide +kernel), by decide, TX1, _, rfl⟩
theorem kvL_23 : KV RL 23 MX7_as 7 2 := ⟨mwX7_as, tbG_of 432 (by decide +kernel) (by decide +kernel), tbG_of 433 (by decide +kernel) (by decide +kernel), tbG_of 431 (by decide +kernel) (by decide +kernel), by decide, TX7, _, rfl⟩
theorem kvX7_119 : KV RX7 119 MX1_isOne 1 1 := ⟨mwX1_isOne, tbG_of 418 (by decide +kernel) (by decide +kernel), tbG_of 419 (by decide +kernel) (by decide +kernel), tbG_of 435 (by decide +kernel) (by decide +kernel), by decide, TX1, _, rfl⟩
theorem kvL_27 : KV RL 27 MX7_turns 7 2 := ⟨mwX7_turns, tbG_of 438 (by decide +kernel) (by decide +kernel), tbG_of 439 (by decide +kernel) (by decide +kernel), tbG_of 437 (by decide +kernel) (by decide +kernel), by decide, TX7, _, rfl⟩
theorem kvL_31 : KV RL 31 MX7_set 7 3 := ⟨mwX7_set, tbG_of 442 (by decide +kernel) (by decide +kernel), tbG_of 443 (by decide +kernel) (by decide +kernel), tbG_of 441 (by decide +kernel) (by decide +kernel), by decide, TX7, _, rfl⟩
theorem kvL_36 : KV RL 36 MX7_sends 7 2 := ⟨mwX7_sends, tbG_of 446 (by decide +kernel) (by decide +kernel), tbG_of 447 (by decide +kernel) (by decide +kernel), tbG_of 445 (by decide +kernel) (by decide +kernel), by decide, TX7, _, rfl⟩
theorem kvL_40 : KV RL 40 MX7_branch 7 3 := ⟨mwX7_branch, tbG_of 450 (by decide +kernel) (by decide +kernel), tbG_of 451 (by decide +kernel) (by decide +kernel), tbG_of 449 (by decide +kernel) (by decide +kernel), by decide, TX7, _, rfl⟩
theorem kvL_44 : KV RL 44 MX7_branchOf 7 2 := ⟨mwX7_branchOf, tbG_of 454 (by decide +kernel) (by decide +kernel), tbG_of 455 (by decide +kernel) (by decide +kernel), tbG_of 453 (by decide +kernel) (by decide +kernel), by decide, TX7, _, rfl⟩
theorem kvX7_138 : KV RX7 138 MX0_ahead 0 0 := ⟨mwX0_ahead, tbG_of 391 (by decide +kernel) (by decide +kernel), tbG_of 392 (by decide +kernel) (by decide +kernel), tbG_of 457 (by decide +kernel) (by decide +kernel), by decide, TX0, _, rfl⟩
theorem kvX7_141 : KV RX7 141 MX2_diggersIn 2 1 := ⟨mwX2_diggersIn, tbG_of 459 (by decide +kernel) (by decide +kernel), tbG_of 460 (by decide +kernel) (by decide +kernel), tbG_of 458 (by decide +kernel) (by decide +kernel), by decide, TX2, _, rfl⟩
theorem kvX7_144 : KV RX7 144 MX2_digIn 2 1 := ⟨mwX2_digIn, tbG_of 463 (by decide +kernel) (by decide +kernel), tbG_of 464 (by decide +kernel) (by decide +kernel), tbG_of 462 (by decide +kernel) (by decide +kernel), by decide, TX2, _, rfl⟩
theorem kvX2_120 : KV RX2 120 MX2_digs 2 1 := ⟨mwX2_digs, tbG_of 370 (by decide +kernel) (by decide +kernel), tbG_of 371 (by decide +kernel) (by decide +kernel), tbG_of 466 (by decide +kernel) (by decide +kernel), by decide, TX2, _, rfl⟩
theorem kvL_48 : KV RL 48 MX7_rule 7 2 := ⟨mwX7_rule, tbG_of 468 (by decide +kernel) (by decide +kernel), tbG_of 469 (by decide +kernel) (by decide +kernel), tbG_of 467 (by decide +kernel) (by decide +kernel), by decide, TX7, _, rfl⟩
theorem kvL_52 : KV RL 52 MX7_deal 7 1 := ⟨mwX7_deal, tbG_of 472 (by decide +kernel) (by decide +kernel), tbG_of 473 (by decide +kernel) (by decide +kernel), tbG_of 471 (by decide +kernel) (by decide +kernel), by decide, TX7, _, rfl⟩
theorem kvX7_159 : KV RX7 159 MX2_addDrawn 2 0 := ⟨mwX2_addDrawn, tbG_of 476 (by decide +kernel) (by decide +kernel), tbG_of 477 (by decide +kernel) (by decide +kernel), tbG_of 475 (by decide +kernel) (by decide +kernel), by decide, TX2, _, rfl⟩
theorem kvX2_82 : KV RX2 82 MX2_draw 2 0 := ⟨mwX2_draw, tbG_of 480 (by decide +kernel) (by decide +kernel), tbG_of 481 (by decide +kernel) (by decide +kernel), tbG_of 479 (by decide +kernel) (by decide +kernel), by decide, TX2, _, rfl⟩
theorem kvX2_86 : KV RX2 86 MX2_add 2 4 := ⟨mwX2_add, tbG_of 356 (by decide +kernel) (by decide +kernel), tbG_of 357 (by decide +kernel) (by decide +kernel), tbG_of 484 (by decide +kernel) (by decide +kernel), by decide, TX2, _, rfl⟩
theorem kvL_57 : KV RL 57 MX7_seed 7 1 := ⟨mwX7_seed, tbG_of 486 (by decide +kernel) (by decide +kernel), tbG_of 487 (by decide +kernel) (by decide +kernel), tbG_of 485 (by decide +kernel) (by decide +kernel), by decide, TX7, _, rfl⟩
theorem kvL_61 : KV RL 61 MX7_nights 7 1 := ⟨mwX7_nights, tbG_of 490 (by decide +kernel) (by decide +kernel), tbG_of 491 (by decide +kernel) (by decide +kernel), tbG_of 489 (by decide +kernel) (by decide +kernel), by decide, TX7, _, rfl⟩
theorem kvX7_165 : KV RX7 165 MX2_hill 2 0 := ⟨mwX2_hill, tbG_of 494 (by decide +kernel) (by decide +kernel), tbG_of 495 (by decide +kernel) (by decide +kernel), tbG_of 493 (by decide +kernel) (by decide +kernel), by decide, TX2, _, rfl⟩
theorem kvX7_171 : KV RX7 171 MX2_pass 2 1 := ⟨mwX2_pass, tbG_of 498 (by decide +kernel) (by decide +kernel), tbG_of 499 (by decide +kernel) (by decide +kernel), tbG_of 497 (by decide +kernel) (by decide +kernel), by decide, TX2, _, rfl⟩
theorem kvX2_106 : KV RX2 106 MX2_digAll 2 0 := ⟨mwX2_digAll, tbG_of 502 (by decide +kernel) (by decide +kernel), tbG_of 503 (by decide +kernel) (by decide +kernel), tbG_of 501 (by decide +kernel) (by decide +kernel), by decide, TX2, _, rfl⟩
theorem kvX2_124 : KV RX2 124 MX2_burns 2 1 := ⟨mwX2_burns, tbG_of 424 (by decide +kernel) (by decide +kernel), tbG_of 425 (by decide +kernel) (by decide +kernel), tbG_of 505 (by decide +kernel) (by decide +kernel), by decide, TX2, _, rfl⟩
theorem kvX2_109 : KV RX2 109 MX2_follow 2 1 := ⟨mwX2_follow, tbG_of 509 (by decide +kernel) (by decide +kernel), tbG_of 510 (by decide +kernel) (by decide +kernel), tbG_of 508 (by decide +kernel) (by decide +kernel), by decide, TX2, _, rfl⟩
theorem kvX2_142 : KV RX2 142 MX2_diggersIn 2 1 := ⟨mwX2_diggersIn, tbG_of 459 (by decide +kernel) (by decide +kernel), tbG_of 460 (by decide +kernel) (by decide +kernel), tbG_of 512 (by decide +kernel) (by decide +kernel), by decide, TX2, _, rfl⟩
theorem kvX2_145 : KV RX2 145 MX2_flee 2 1 := ⟨mwX2_flee, tbG_of 514 (by decide +kernel) (by decide +kernel), tbG_of 515 (by decide +kernel) (by decide +kernel), tbG_of 513 (by decide +kernel) (by decide +kernel), by decide, TX2, _, rfl⟩
theorem kvX2_113 : KV RX2 113 MX2_letRockFall 2 0 := ⟨mwX2_letRockFall, tbG_of 518 (by decide +kernel) (by decide +kernel), tbG_of 519 (by decide +kernel) (by decide +kernel), tbG_of 517 (by decide +kernel) (by decide +kernel), by decide, TX2, _, rfl⟩
theorem kvL_65 : KV RL 65 MX7_below 7 1 := ⟨mwX7_below, tbG_of 522 (by decide +kernel) (by decide +kernel), tbG_of 523 (by decide +kernel) (by decide +kernel), tbG_of 521 (by decide +kernel) (by decide +kernel), by decide, TX7, _, rfl⟩
theorem kvX7_181 : KV RX7 181 MX2_candlesOfAll 2 0 := ⟨mwX2_candlesOfAll, tbG_of 526 (by decide +kernel) (by decide +kernel), tbG_of 527 (by decide +kernel) (by decide +kernel), tbG_of 525 (by decide +kernel) (by decide +kernel), by decide, TX2, _, rfl⟩
theorem kvX7_184 : KV RX7 184 MX2_branchesInUse 2 0 := ⟨mwX2_branchesInUse, tbG_of 530 (by decide +kernel) (by decide +kernel), tbG_of 531 (by decide +kernel) (by decide +kernel), tbG_of 529 (by decide +kernel) (by decide +kernel), by decide, TX2, _, rfl⟩
theorem kvX7_187 : KV RX7 187 MX2_front 2 0 := ⟨mwX2_front, tbG_of 534 (by decide +kernel) (by decide +kernel), tbG_of 535 (by decide +kernel) (by decide +kernel), tbG_of 533 (by decide +kernel) (by decide +kernel), by decide, TX2, _, rfl⟩
theorem kvL_69 : KV RL 69 MX7_behind 7 2 := ⟨mwX7_behind, tbG_of 538 (by decide +kernel) (by decide +kernel), tbG_of 539 (by decide +kernel) (by decide +kernel), tbG_of 537 (by decide +kernel) (by decide +kernel), by decide, TX7, _, rfl⟩
theorem kvX7_190 : KV RX7 190 MX2_becomeAs 2 1 := ⟨mwX2_becomeAs, tbG_of 542 (by decide +kernel) (by decide +kernel), tbG_of 543 (by decide +kernel) (by decide +kernel), tbG_of 541 (by decide +kernel) (by decide +kernel), by decide, TX2, _, rfl⟩
theorem kvX2_41 : KV RX2 41 MX0_becomeAs 0 1 := ⟨mwX0_becomeAs, tbG_of 546 (by decide +kernel) (by decide +kernel), tbG_of 547 (by decide +kernel) (by decide +kernel), tbG_of 545 (by decide +kernel) (by decide +kernel), by decide, TX0, _, rfl⟩
theorem kvX2_48 : KV RX2 48 MX1_becomeAs 1 1 := ⟨mwX1_becomeAs, tbG_of 550 (by decide +kernel) (by decide +kernel), tbG_of 551 (by decide +kernel) (by decide +kernel), tbG_of 549 (by decide +kernel) (by decide +kernel), by decide, TX1, _, rfl⟩
theorem kvL_73 : KV RL 73 MX7_reaches 7 2 := ⟨mwX7_reaches, tbG_of 554 (by decide +kernel) (by decide +kernel), tbG_of 555 (by decide +kernel) (by decide +kernel), tbG_of 553 (by decide +kernel) (by decide +kernel), by decide, TX7, _, rfl⟩
theorem kvL_77 : KV RL 77 MX7_leaves 7 1 := ⟨mwX7_leaves, tbG_of 559 (by decide +kernel) (by decide +kernel), tbG_of 560 (by decide +kernel) (by decide +kernel), tbG_of 558 (by decide +kernel) (by decide +kernel), by decide, TX7, _, rfl⟩
theorem kvL_81 : KV RL 81 MX7_light 7 2 := ⟨mwX7_light, tbG_of 563 (by decide +kernel) (by decide +kernel), tbG_of 564 (by decide +kernel) (by decide +kernel), tbG_of 562 (by decide +kernel) (by decide +kernel), by decide, TX7, _, rfl⟩
theorem kvX7_195 : KV RX7 195 MX2_room 2 0 := ⟨mwX2_room, tbG_of 567 (by decide +kernel) (by decide +kernel), tbG_of 568 (by decide +kernel) (by decide +kernel), tbG_of 566 (by decide +kernel) (by decide +kernel), by decide, TX2, _, rfl⟩
theorem kvX2_185 : KV RX2 185 MX2_dugOfAll 2 0 := ⟨mwX2_dugOfAll, tbG_of 571 (by decide +kernel) (by decide +kernel), tbG_of 572 (by decide +kernel) (by decide +kernel), tbG_of 570 (by decide +kernel) (by decide +kernel), by decide, TX2, _, rfl⟩
theorem kvX7_198 : KV RX7 198 MX2_lit 2 0 := ⟨mwX2_lit, tbG_of 575 (by decide +kernel) (by decide +kernel), tbG_of 576 (by decide +kernel) (by decide +kernel), tbG_of 574 (by decide +kernel) (by decide +kernel), by decide, TX2, _, rfl⟩
theorem ksX7_201 : KS RX7 201 MJ6_bitCount_0f7a4 1 := ⟨mwJ6_bitCount_0f7a4, tbG_of 579 (by decide +kernel) (by decide +kernel), Or.inl (tbG_of 578 (by decide +kernel) (by decide +kernel))⟩
theorem kvX7_206 : KV RX7 206 MX2_putOutAllBut 2 1 := ⟨mwX2_putOutAllBut, tbG_of 585 (by decide +kernel) (by decide +kernel), tbG_of 586 (by decide +kernel) (by decide +kernel), tbG_of 584 (by decide +kernel) (by decide +kernel), by decide, TX2, _, rfl⟩
theorem kvL_85 : KV RL 85 MX7_wax 7 3 := ⟨mwX7_wax, tbG_of 589 (by decide +kernel) (by decide +kernel), tbG_of 590 (by decide +kernel) (by decide +kernel), tbG_of 588 (by decide +kernel) (by decide +kernel), by decide, TX7, _, rfl⟩
theorem kvL_89 : KV RL 89 MX7_sent 7 3 := ⟨mwX7_sent, tbG_of 593 (by decide +kernel) (by decide +kernel), tbG_of 594 (by decide +kernel) (by decide +kernel), tbG_of 592 (by decide +kernel) (by decide +kernel), by decide, TX7, _, rfl⟩
theorem kvL_93 : KV RL 93 MX7_becomes 7 3 := ⟨mwX7_becomes, tbG_of 597 (by decide +kernel) (by decide +kernel), tbG_of 598 (by decide +kernel) (by decide +kernel), tbG_of 596 (by decide +kernel) (by decide +kernel), by decide, TX7, _, rfl⟩
theorem kvL_97 : KV RL 97 MX7_like 7 2 := ⟨mwX7_like, tbG_of 601 (by decide +kernel) (by decide +kernel), tbG_of 602 (by decide +kernel) (by decide +kernel), tbG_of 600 (by decide +kernel) (by decide +kernel), by decide, TX7, _, rfl⟩
theorem ksX7_209 : KS RX7 209 MX7_isSheet 1 := ⟨mwX7_isSheet, tbG_of 605 (by decide +kernel) (by decide +kernel), Or.inl (tbG_of 604 (by decide +kernel) (by decide +kernel))⟩
theorem kvX7_212 : KV RX7 212 MX4_isMissing 4 0 := ⟨mwX4_isMissing, tbG_of 608 (by decide +kernel) (by decide +kernel), tbG_of 609 (by decide +kernel) (by decide +kernel), tbG_of 607 (by decide +kernel) (by decide +kernel), by decide, TX4, _, rfl⟩
theorem kvX7_217 : KV RX7 217 MX7_differences 7 2 := ⟨mwX7_differences, tbG_of 614 (by decide +kernel) (by decide +kernel), tbG_of 1 (by decide +kernel) (by decide +kernel), tbG_of 612 (by decide +kernel) (by decide +kernel), by decide, TX7, _, rfl⟩
theorem kvX7_270 : KV RX7 270 MX4_isNumber 4 1 := ⟨mwX4_isNumber, tbG_of 617 (by decide +kernel) (by decide +kernel), tbG_of 618 (by decide +kernel) (by decide +kernel), tbG_of 616 (by decide +kernel) (by decide +kernel), by decide, TX4, _, rfl⟩
theorem kvX4_28 : KV RX4 28 MX4_hasPlace 4 1 := ⟨mwX4_hasPlace, tbG_of 621 (by decide +kernel) (by decide +kernel), tbG_of 622 (by decide +kernel) (by decide +kernel), tbG_of 620 (by decide +kernel) (by decide +kernel), by decide, TX4, _, rfl⟩
theorem kvL_101 : KV RL 101 MX7_fee 7 0 := ⟨mwX7_fee, tbG_of 629 (by decide +kernel) (by decide +kernel), tbG_of 630 (by decide +kernel) (by decide +kernel), tbG_of 628 (by decide +kernel) (by decide +kernel), by decide, TX7, _, rfl⟩
theorem kvX7_221 : KV RX7 221 MX2_feeGives 2 0 := ⟨mwX2_feeGives, tbG_of 633 (by decide +kernel) (by decide +kernel), tbG_of 634 (by decide +kernel) (by decide +kernel), tbG_of 632 (by decide +kernel) (by decide +kernel), by decide, TX2, _, rfl⟩
theorem kvX2_178 : KV RX2 178 MX2_hill 2 0 := ⟨mwX2_hill, tbG_of 494 (by decide +kernel) (by decide +kernel), tbG_of 495 (by decide +kernel) (by decide +kernel), tbG_of 636 (by decide +kernel) (by decide +kernel), by decide, TX2, _, rfl⟩
theorem kvL_106 : KV RL 106 MX7_fine 7 1 := ⟨mwX7_fine, tbG_of 638 (by decide +kernel) (by decide +kernel), tbG_of 639 (by decide +kernel) (by decide +kernel), tbG_of 637 (by decide +kernel) (by decide +kernel), by decide, TX7, _, rfl⟩
theorem kvX7_224 : KV RX7 224 MX2_fineGives 2 1 := ⟨mwX2_fineGives, tbG_of 642 (by decide +kernel) (by decide +kernel), tbG_of 643 (by decide +kernel) (by decide +kernel), tbG_of 641 (by decide +kernel) (by decide +kernel), by decide, TX2, _, rfl⟩
theorem kvL_110 : KV RL 110 MX7_feed 7 3 := ⟨mwX7_feed, tbG_of 646 (by decide +kernel) (by decide +kernel), tbG_of 647 (by decide +kernel) (by decide +kernel), tbG_of 645 (by decide +kernel) (by decide +kernel), by decide, TX7, _, rfl⟩
theorem kvX7_231 : KV RX7 231 MX3_addBytes 3 1 := ⟨mwX3_addBytes, tbG_of 650 (by decide +kernel) (by decide +kernel), tbG_of 651 (by decide +kernel) (by decide +kernel), tbG_of 649 (by decide +kernel) (by decide +kernel), by decide, TX3, _, rfl⟩
theorem kvL_114 : KV RL 114 MX7_trim 7 1 := ⟨mwX7_trim, tbG_of 654 (by decide +kernel) (by decide +kernel), tbG_of 655 (by decide +kernel) (by decide +kernel), tbG_of 653 (by decide +kernel) (by decide +kernel), by decide, TX7, _, rfl⟩
theorem kvL_118 : KV RL 118 MX7_text 7 0 := ⟨mwX7_text, tbG_of 658 (by decide +kernel) (by decide +kernel), tbG_of 659 (by decide +kernel) (by decide +kernel), tbG_of 657 (by decide +kernel) (by decide +kernel), by decide, TX7, _, rfl⟩
theorem kvX7_234 : KV RX7 234 MX3_fault 3 0 := ⟨mwX3_fault, tbG_of 662 (by decide +kernel) (by decide +kernel), tbG_of 663 (by decide +kernel) (by decide +kernel), tbG_of 661 (by decide +kernel) (by decide +kernel), by decide, TX3, _, rfl⟩
theorem kvX3_22 : KV RX3 22 MX3_begin 3 0 := ⟨mwX3_begin, tbG_of 666 (by decide +kernel) (by decide +kernel), tbG_of 667 (by decide +kernel) (by decide +kernel), tbG_of 665 (by decide +kernel) (by decide +kernel), by decide, TX3, _, rfl⟩
theorem kvX3_35 : KV RX3 35 MX3_next 3 0 := ⟨mwX3_next, tbG_of 670 (by decide +kernel) (by decide +kernel), tbG_of 671 (by decide +kernel) (by decide +kernel), tbG_of 669 (by decide +kernel) (by decide +kernel), by decide, TX3, _, rfl⟩
theorem kvX3_60 : KV RX3 60 MX3_byteAt 3 1 := ⟨mwX3_byteAt, tbG_of 674 (by decide +kernel) (by decide +kernel), tbG_of 675 (by decide +kernel) (by decide +kernel), tbG_of 673 (by decide +kernel) (by decide +kernel), by decide, TX3, _, rfl⟩
theorem ksX3_64 : KS RX3 64 MX3_isWord 1 := ⟨mwX3_isWord, tbG_of 678 (by decide +kernel) (by decide +kernel), Or.inl (tbG_of 677 (by decide +kernel) (by decide +kernel))⟩
theorem kvX3_67 : KV RX3 67 MX3_sortAt 3 1 := ⟨mwX3_sortAt, tbG_of 681 (by decide +kernel) (by decide +kernel), tbG_of 682 (by decide +kernel) (by decide +kernel), tbG_of 680 (by decide +kernel) (by decide +kernel), by decide, TX3, _, rfl⟩
theorem kvX3_25 : KV RX3 25 MX3_keyHere 3 0 := ⟨mwX3_keyHere, tbG_of 685 (by decide +kernel) (by decide +kernel), tbG_of 686 (by decide +kernel) (by decide +kernel), tbG_of 684 (by decide +kernel) (by decide +kernel), by decide, TX3, _, rfl⟩
theorem kvX3_76 : KV RX3 76 MX3_isHere 3 1 := ⟨mwX3_isHere, tbG_of 690 (by decide +kernel) (by decide +kernel), tbG_of 691 (by decide +kernel) (by decide +kernel), tbG_of 689 (by decide +kernel) (by decide +kernel), by decide, TX3, _, rfl⟩
theorem ksJ0_495 : KS RJ0 495 MJ1_charAt_3b067 2 := ⟨mwJ1_charAt_3b067, tbG_of 712 (by decide +kernel) (by decide +kernel), Or.inl (tbG_of 711 (by decide +kernel) (by decide +kernel))⟩
theorem ksJ1_9 : KS RJ1 9 MJ0_checkIndex_df160 2 := ⟨mwJ0_checkIndex_df160, tbG_of 715 (by decide +kernel) (by decide +kernel), Or.inl (tbG_of 714 (by decide +kernel) (by decide +kernel))⟩
theorem ksJ0_1059 : KS RJ0 1059 MJ3_checkIndex_8e157 3 := ⟨mwJ3_checkIndex_8e157, tbG_of 720 (by decide +kernel) (by decide +kernel), Or.inl (tbG_of 719 (by decide +kernel) (by decide +kernel))⟩
theorem kvX3_38 : KV RX3 38 MX3_part 3 1 := ⟨mwX3_part, tbG_of 745 (by decide +kernel) (by decide +kernel), tbG_of 2 (by decide +kernel) (by decide +kernel), tbG_of 743 (by decide +kernel) (by decide +kernel), by decide, TX3, _, rfl⟩
theorem kvX3_92 : KV RX3 92 MX3_piece 3 0 := ⟨mwX3_piece, tbG_of 749 (by decide +kernel) (by decide +kernel), tbG_of 3 (by decide +kernel) (by decide +kernel), tbG_of 747 (by decide +kernel) (by decide +kernel), by decide, TX3, _, rfl⟩
theorem kvX3_103 : KV RX3 103 MX3_leaf 3 0 := ⟨mwX3_leaf, tbG_of 752 (by decide +kernel) (by decide +kernel), tbG_of 753 (by decide +kernel) (by decide +kernel), tbG_of 751 (by decide +kernel) (by decide +kernel), by decide, TX3, _, rfl⟩
theorem kvX3_129 : KV RX3 129 MX3_number 3 0 := ⟨mwX3_number, tbG_of 756 (by decide +kernel) (by decide +kernel), tbG_of 757 (by decide +kernel) (by decide +kernel), tbG_of 755 (by decide +kernel) (by decide +kernel), by decide, TX3, _, rfl⟩
theorem kvX3_132 : KV RX3 132 MX3_name 3 0 := ⟨mwX3_name, tbG_of 760 (by decide +kernel) (by decide +kernel), tbG_of 761 (by decide +kernel) (by decide +kernel), tbG_of 759 (by decide +kernel) (by decide +kernel), by decide, TX3, _, rfl⟩
theorem ksX3_135 : KS RX3 135 MX3_namesOf 1 := ⟨mwX3_namesOf, tbG_of 764 (by decide +kernel) (by decide +kernel), Or.inl (tbG_of 763 (by decide +kernel) (by decide +kernel))⟩
theorem ksJ0_637 : KS RJ0 637 MJ1_indexOf_4cfef 4 := ⟨mwJ1_indexOf_4cfef, tbG_of 779 (by decide +kernel) (by decide +kernel), Or.inl (tbG_of 778 (by decide +kernel) (by decide +kernel))⟩
theorem ksJ1_88 : KS RJ1 88 MJ1_canEncode_9a6ad 1 := ⟨mwJ1_canEncode_9a6ad, tbG_of 782 (by decide +kernel) (by decide +kernel), Or.inl (tbG_of 781 (by decide +kernel) (by decide +kernel))⟩
theorem ksJ1_95 : KS RJ1 95 MJ1_indexOfChar_4cfef 4 := ⟨mwJ1_indexOfChar_4cfef, tbG_of 787 (by decide +kernel) (by decide +kernel), Or.inl (tbG_of 786 (by decide +kernel) (by decide +kernel))⟩
theorem ksJ0_1062 : KS RJ0 1062 MJ3_checkFromToIndex_8c36e 4 := ⟨mwJ3_checkFromToIndex_8c36e, tbG_of 805 (by decide +kernel) (by decide +kernel), Or.inl (tbG_of 804 (by decide +kernel) (by decide +kernel))⟩
theorem kvX3_99 : KV RX3 99 MX3_put 3 1 := ⟨mwX3_put, tbG_of 825 (by decide +kernel) (by decide +kernel), tbG_of 826 (by decide +kernel) (by decide +kernel), tbG_of 824 (by decide +kernel) (by decide +kernel), by decide, TX3, _, rfl⟩
theorem kvX3_106 : KV RX3 106 MX3_not 3 0 := ⟨mwX3_not, tbG_of 830 (by decide +kernel) (by decide +kernel), tbG_of 4 (by decide +kernel) (by decide +kernel), tbG_of 828 (by decide +kernel) (by decide +kernel), by decide, TX3, _, rfl⟩
theorem kvX3_109 : KV RX3 109 MX3_bracket 3 0 := ⟨mwX3_bracket, tbG_of 834 (by decide +kernel) (by decide +kernel), tbG_of 5 (by decide +kernel) (by decide +kernel), tbG_of 832 (by decide +kernel) (by decide +kernel), by decide, TX3, _, rfl⟩
theorem kvX3_96 : KV RX3 96 MX3_isSignOf 3 1 := ⟨mwX3_isSignOf, tbG_of 837 (by decide +kernel) (by decide +kernel), tbG_of 838 (by decide +kernel) (by decide +kernel), tbG_of 836 (by decide +kernel) (by decide +kernel), by decide, TX3, _, rfl⟩
theorem ksX3_112 : KS RX3 112 MX3_signsOf 1 := ⟨mwX3_signsOf, tbG_of 841 (by decide +kernel) (by decide +kernel), Or.inl (tbG_of 840 (by decide +kernel) (by decide +kernel))⟩
theorem kvX7_239 : KV RX7 239 MX2_addText 2 1 := ⟨mwX2_addText, tbG_of 849 (by decide +kernel) (by decide +kernel), tbG_of 850 (by decide +kernel) (by decide +kernel), tbG_of 848 (by decide +kernel) (by decide +kernel), by decide, TX2, _, rfl⟩
theorem kvX2_91 : KV RX2 91 MX6_write 6 2 := ⟨mwX6_write, tbG_of 853 (by decide +kernel) (by decide +kernel), tbG_of 854 (by decide +kernel) (by decide +kernel), tbG_of 852 (by decide +kernel) (by decide +kernel), by decide, TX6, _, rfl⟩
theorem kvL_122 : KV RL 122 MX7_textTold 7 2 := ⟨mwX7_textTold, tbG_of 859 (by decide +kernel) (by decide +kernel), tbG_of 860 (by decide +kernel) (by decide +kernel), tbG_of 858 (by decide +kernel) (by decide +kernel), by decide, TX7, _, rfl⟩
theorem kvL_126 : KV RL 126 MX7_why 7 1 := ⟨mwX7_why, tbG_of 863 (by decide +kernel) (by decide +kernel), tbG_of 864 (by decide +kernel) (by decide +kernel), tbG_of 862 (by decide +kernel) (by decide +kernel), by decide, TX7, _, rfl⟩
theorem kvL_130 : KV RL 130 MX7_sheet 7 3 := ⟨mwX7_sheet, tbG_of 867 (by decide +kernel) (by decide +kernel), tbG_of 868 (by decide +kernel) (by decide +kernel), tbG_of 866 (by decide +kernel) (by decide +kernel), by decide, TX7, _, rfl⟩
theorem kvX7_252 : KV RX7 252 MX4_become 4 2 := ⟨mwX4_become, tbG_of 871 (by decide +kernel) (by decide +kernel), tbG_of 872 (by decide +kernel) (by decide +kernel), tbG_of 870 (by decide +kernel) (by decide +kernel), by decide, TX4, _, rfl⟩
theorem kvL_134 : KV RL 134 MX7_mark 7 3 := ⟨mwX7_mark, tbG_of 876 (by decide +kernel) (by decide +kernel), tbG_of 877 (by decide +kernel) (by decide +kernel), tbG_of 875 (by decide +kernel) (by decide +kernel), by decide, TX7, _, rfl⟩
theorem kvX7_257 : KV RX7 257 MX4_hasPlace 4 1 := ⟨mwX4_hasPlace, tbG_of 621 (by decide +kernel) (by decide +kernel), tbG_of 622 (by decide +kernel) (by decide +kernel), tbG_of 879 (by decide +kernel) (by decide +kernel), by decide, TX4, _, rfl⟩
theorem kvL_138 : KV RL 138 MX7_pour 7 1 := ⟨mwX7_pour, tbG_of 884 (by decide +kernel) (by decide +kernel), tbG_of 885 (by decide +kernel) (by decide +kernel), tbG_of 883 (by decide +kernel) (by decide +kernel), by decide, TX7, _, rfl⟩
theorem ksX7_273 : KS RX7 273 MX7_held 1 := ⟨mwX7_held, tbG_of 378 (by decide +kernel) (by decide +kernel), Or.inl (tbG_of 887 (by decide +kernel) (by decide +kernel))⟩
theorem kvL_142 : KV RL 142 MX7_reads 7 1 := ⟨mwX7_reads, tbG_of 889 (by decide +kernel) (by decide +kernel), tbG_of 890 (by decide +kernel) (by decide +kernel), tbG_of 888 (by decide +kernel) (by decide +kernel), by decide, TX7, _, rfl⟩
theorem kvL_146 : KV RL 146 MX7_copy 7 5 := ⟨mwX7_copy, tbG_of 893 (by decide +kernel) (by decide +kernel), tbG_of 894 (by decide +kernel) (by decide +kernel), tbG_of 892 (by decide +kernel) (by decide +kernel), by decide, TX7, _, rfl⟩
theorem kvX7_276 : KV RX7 276 MX4_hasPlaces 4 2 := ⟨mwX4_hasPlaces, tbG_of 897 (by decide +kernel) (by decide +kernel), tbG_of 898 (by decide +kernel) (by decide +kernel), tbG_of 896 (by decide +kernel) (by decide +kernel), by decide, TX4, _, rfl⟩
theorem kvL_151 : KV RL 151 MX7_lay 7 3 := ⟨mwX7_lay, tbG_of 904 (by decide +kernel) (by decide +kernel), tbG_of 905 (by decide +kernel) (by decide +kernel), tbG_of 903 (by decide +kernel) (by decide +kernel), by decide, TX7, _, rfl⟩
theorem ksX7_286 : KS RX7 286 MX7_isSlot 1 := ⟨mwX7_isSlot, tbG_of 908 (by decide +kernel) (by decide +kernel), Or.inl (tbG_of 907 (by decide +kernel) (by decide +kernel))⟩
theorem kvX7_296 : KV RX7 296 MX1_becomeAs 1 1 := ⟨mwX1_becomeAs, tbG_of 550 (by decide +kernel) (by decide +kernel), tbG_of 551 (by decide +kernel) (by decide +kernel), tbG_of 910 (by decide +kernel) (by decide +kernel), by decide, TX1, _, rfl⟩
theorem kvX7_303 : KV RX7 303 MX4_becomeAs 4 1 := ⟨mwX4_becomeAs, tbG_of 912 (by decide +kernel) (by decide +kernel), tbG_of 913 (by decide +kernel) (by decide +kernel), tbG_of 911 (by decide +kernel) (by decide +kernel), by decide, TX4, _, rfl⟩
theorem kvL_155 : KV RL 155 MX7_ask 7 2 := ⟨mwX7_ask, tbG_of 917 (by decide +kernel) (by decide +kernel), tbG_of 918 (by decide +kernel) (by decide +kernel), tbG_of 916 (by decide +kernel) (by decide +kernel), by decide, TX7, _, rfl⟩
theorem kvL_159 : KV RL 159 MX7_item 7 2 := ⟨mwX7_item, tbG_of 921 (by decide +kernel) (by decide +kernel), tbG_of 922 (by decide +kernel) (by decide +kernel), tbG_of 920 (by decide +kernel) (by decide +kernel), by decide, TX7, _, rfl⟩
theorem kvL_163 : KV RL 163 MX7_rest 7 2 := ⟨mwX7_rest, tbG_of 925 (by decide +kernel) (by decide +kernel), tbG_of 926 (by decide +kernel) (by decide +kernel), tbG_of 924 (by decide +kernel) (by decide +kernel), by decide, TX7, _, rfl⟩
theorem kvL_167 : KV RL 167 MX7_tell 7 1 := ⟨mwX7_tell, tbG_of 930 (by decide +kernel) (by decide +kernel), tbG_of 931 (by decide +kernel) (by decide +kernel), tbG_of 929 (by decide +kernel) (by decide +kernel), by decide, TX7, _, rfl⟩
theorem kvL_171 : KV RL 171 MX7_check 7 1 := ⟨mwX7_check, tbG_of 934 (by decide +kernel) (by decide +kernel), tbG_of 935 (by decide +kernel) (by decide +kernel), tbG_of 933 (by decide +kernel) (by decide +kernel), by decide, TX7, _, rfl⟩
theorem kvX7_310 : KV RX7 310 MX7_isTold 7 3 := ⟨mwX7_isTold, tbG_of 939 (by decide +kernel) (by decide +kernel), tbG_of 6 (by decide +kernel) (by decide +kernel), tbG_of 937 (by decide +kernel) (by decide +kernel), by decide, TX7, _, rfl⟩
theorem kvX7_313 : KV RX7 313 MX2_dugOfAll 2 0 := ⟨mwX2_dugOfAll, tbG_of 571 (by decide +kernel) (by decide +kernel), tbG_of 572 (by decide +kernel) (by decide +kernel), tbG_of 941 (by decide +kernel) (by decide +kernel), by decide, TX2, _, rfl⟩
theorem kvL_175 : KV RL 175 MX7_keep 7 0 := ⟨mwX7_keep, tbG_of 943 (by decide +kernel) (by decide +kernel), tbG_of 944 (by decide +kernel) (by decide +kernel), tbG_of 942 (by decide +kernel) (by decide +kernel), by decide, TX7, _, rfl⟩
theorem kvL_179 : KV RL 179 MX7_back 7 0 := ⟨mwX7_back, tbG_of 947 (by decide +kernel) (by decide +kernel), tbG_of 948 (by decide +kernel) (by decide +kernel), tbG_of 946 (by decide +kernel) (by decide +kernel), by decide, TX7, _, rfl⟩
theorem kvL_183 : KV RL 183 MX7_count 7 1 := ⟨mwX7_count, tbG_of 951 (by decide +kernel) (by decide +kernel), tbG_of 952 (by decide +kernel) (by decide +kernel), tbG_of 950 (by decide +kernel) (by decide +kernel), by decide, TX7, _, rfl⟩
theorem kiL_12 : KI RL 12 MX8_init 0 := ⟨mwX8_init, tbG_of 957 (by decide +kernel) (by decide +kernel), rfl, rfl, Or.inl (tbG_of 956 (by decide +kernel) (by decide +kernel))⟩
theorem kvL_17 : KV RL 17 MX8_digger 8 4 := ⟨mwX8_digger, tbG_of 1063 (by decide +kernel) (by decide +kernel), tbG_of 1064 (by decide +kernel) (by decide +kernel), tbG_of 1062 (by decide +kernel) (by decide +kernel), by decide, TX8, _, rfl⟩
theorem ksX8_75 : KS RX8 75 MX8_in 3 := ⟨mwX8_in, tbG_of 1067 (by decide +kernel) (by decide +kernel), Or.inl (tbG_of 1066 (by decide +kernel) (by decide +kernel))⟩
theorem ksX8_120 : KS RX8 120 MX8_isBranch 1 := ⟨mwX8_isBranch, tbG_of 1070 (by decide +kernel) (by decide +kernel), Or.inl (tbG_of 1069 (by decide +kernel) (by decide +kernel))⟩
theorem kvX8_125 : KV RX8 125 MX8_comes 8 4 := ⟨mwX8_comes, tbG_of 1076 (by decide +kernel) (by decide +kernel), tbG_of 7 (by decide +kernel) (by decide +kernel), tbG_of 1074 (by decide +kernel) (by decide +kernel), by decide, TX8, _, rfl⟩
theorem kvX8_116 : KV RX8 116 MX8_put 8 3 := ⟨mwX8_put, tbG_of 1080 (by decide +kernel) (by decide +kernel), tbG_of 8 (by decide +kernel) (by decide +kernel), tbG_of 1078 (by decide +kernel) (by decide +kernel), by decide, TX8, _, rfl⟩
theorem kvL_22 : KV RL 22 MX8_told 8 2 := ⟨mwX8_told, tbG_of 1083 (by decide +kernel) (by decide +kernel), tbG_of 1084 (by decide +kernel) (by decide +kernel), tbG_of 1082 (by decide +kernel) (by decide +kernel), by decide, TX8, _, rfl⟩
theorem kvX8_129 : KV RX8 129 MX8_isDigger 8 1 := ⟨mwX8_isDigger, tbG_of 1088 (by decide +kernel) (by decide +kernel), tbG_of 9 (by decide +kernel) (by decide +kernel), tbG_of 1086 (by decide +kernel) (by decide +kernel), by decide, TX8, _, rfl⟩
theorem kvX8_83 : KV RX8 83 MX8_of 8 2 := ⟨mwX8_of, tbG_of 1092 (by decide +kernel) (by decide +kernel), tbG_of 10 (by decide +kernel) (by decide +kernel), tbG_of 1090 (by decide +kernel) (by decide +kernel), by decide, TX8, _, rfl⟩
theorem kvX8_132 : KV RX8 132 MX8_digsOf 8 1 := ⟨mwX8_digsOf, tbG_of 1096 (by decide +kernel) (by decide +kernel), tbG_of 11 (by decide +kernel) (by decide +kernel), tbG_of 1094 (by decide +kernel) (by decide +kernel), by decide, TX8, _, rfl⟩
theorem kvX8_106 : KV RX8 106 MX8_plainDig 8 1 := ⟨mwX8_plainDig, tbG_of 1100 (by decide +kernel) (by decide +kernel), tbG_of 12 (by decide +kernel) (by decide +kernel), tbG_of 1098 (by decide +kernel) (by decide +kernel), by decide, TX8, _, rfl⟩
theorem kvX8_86 : KV RX8 86 MX8_counts 8 1 := ⟨mwX8_counts, tbG_of 1104 (by decide +kernel) (by decide +kernel), tbG_of 13 (by decide +kernel) (by decide +kernel), tbG_of 1102 (by decide +kernel) (by decide +kernel), by decide, TX8, _, rfl⟩
theorem kvX8_79 : KV RX8 79 MX8_at 8 2 := ⟨mwX8_at, tbG_of 1108 (by decide +kernel) (by decide +kernel), tbG_of 14 (by decide +kernel) (by decide +kernel), tbG_of 1106 (by decide +kernel) (by decide +kernel), by decide, TX8, _, rfl⟩
theorem kvX8_90 : KV RX8 90 MX8_ahead 8 1 := ⟨mwX8_ahead, tbG_of 1112 (by decide +kernel) (by decide +kernel), tbG_of 15 (by decide +kernel) (by decide +kernel), tbG_of 1110 (by decide +kernel) (by decide +kernel), by decide, TX8, _, rfl⟩
theorem kvX8_93 : KV RX8 93 MX8_litIn 8 1 := ⟨mwX8_litIn, tbG_of 1116 (by decide +kernel) (by decide +kernel), tbG_of 16 (by decide +kernel) (by decide +kernel), tbG_of 1114 (by decide +kernel) (by decide +kernel), by decide, TX8, _, rfl⟩
theorem ksX8_96 : KS RX8 96 MX8_bits 1 := ⟨mwX8_bits, tbG_of 1119 (by decide +kernel) (by decide +kernel), Or.inl (tbG_of 1118 (by decide +kernel) (by decide +kernel))⟩
theorem kvX8_99 : KV RX8 99 MX8_worksOut 8 1 := ⟨mwX8_worksOut, tbG_of 1123 (by decide +kernel) (by decide +kernel), tbG_of 17 (by decide +kernel) (by decide +kernel), tbG_of 1121 (by decide +kernel) (by decide +kernel), by decide, TX8, _, rfl⟩
theorem ksX8_278 : KS RX8 278 MX8_two 3 := ⟨mwX8_two, tbG_of 1126 (by decide +kernel) (by decide +kernel), Or.inl (tbG_of 1125 (by decide +kernel) (by decide +kernel))⟩
theorem ksX8_102 : KS RX8 102 MX8_within 3 := ⟨mwX8_within, tbG_of 1129 (by decide +kernel) (by decide +kernel), Or.inl (tbG_of 1128 (by decide +kernel) (by decide +kernel))⟩
theorem kvX8_109 : KV RX8 109 MX8_isFarOff 8 1 := ⟨mwX8_isFarOff, tbG_of 1133 (by decide +kernel) (by decide +kernel), tbG_of 18 (by decide +kernel) (by decide +kernel), tbG_of 1131 (by decide +kernel) (by decide +kernel), by decide, TX8, _, rfl⟩
theorem kvX8_113 : KV RX8 113 MX8_fellows 8 1 := ⟨mwX8_fellows, tbG_of 1137 (by decide +kernel) (by decide +kernel), tbG_of 19 (by decide +kernel) (by decide +kernel), tbG_of 1135 (by decide +kernel) (by decide +kernel), by decide, TX8, _, rfl⟩
theorem kvX8_135 : KV RX8 135 MX8_burnsOf 8 1 := ⟨mwX8_burnsOf, tbG_of 1141 (by decide +kernel) (by decide +kernel), tbG_of 20 (by decide +kernel) (by decide +kernel), tbG_of 1139 (by decide +kernel) (by decide +kernel), by decide, TX8, _, rfl⟩
theorem kvX8_138 : KV RX8 138 MX8_worthOf 8 1 := ⟨mwX8_worthOf, tbG_of 1145 (by decide +kernel) (by decide +kernel), tbG_of 21 (by decide +kernel) (by decide +kernel), tbG_of 1143 (by decide +kernel) (by decide +kernel), by decide, TX8, _, rfl⟩
theorem kvL_26 : KV RL 26 MX8_as 8 2 := ⟨mwX8_as, tbG_of 1148 (by decide +kernel) (by decide +kernel), tbG_of 1149 (by decide +kernel) (by decide +kernel), tbG_of 1147 (by decide +kernel) (by decide +kernel), by decide, TX8, _, rfl⟩
theorem ksX8_141 : KS RX8 141 MX8_isUnder 2 := ⟨mwX8_isUnder, tbG_of 1152 (by decide +kernel) (by decide +kernel), Or.inl (tbG_of 1151 (by decide +kernel) (by decide +kernel))⟩
theorem kvL_30 : KV RL 30 MX8_turns 8 2 := ⟨mwX8_turns, tbG_of 1156 (by decide +kernel) (by decide +kernel), tbG_of 1157 (by decide +kernel) (by decide +kernel), tbG_of 1155 (by decide +kernel) (by decide +kernel), by decide, TX8, _, rfl⟩
theorem kvX8_146 : KV RX8 146 MX8_swaps 8 2 := ⟨mwX8_swaps, tbG_of 1161 (by decide +kernel) (by decide +kernel), tbG_of 22 (by decide +kernel) (by decide +kernel), tbG_of 1159 (by decide +kernel) (by decide +kernel), by decide, TX8, _, rfl⟩
theorem kvL_35 : KV RL 35 MX8_set 8 3 := ⟨mwX8_set, tbG_of 1164 (by decide +kernel) (by decide +kernel), tbG_of 1165 (by decide +kernel) (by decide +kernel), tbG_of 1163 (by decide +kernel) (by decide +kernel), by decide, TX8, _, rfl⟩
theorem kvL_39 : KV RL 39 MX8_sends 8 2 := ⟨mwX8_sends, tbG_of 1168 (by decide +kernel) (by decide +kernel), tbG_of 1169 (by decide +kernel) (by decide +kernel), tbG_of 1167 (by decide +kernel) (by decide +kernel), by decide, TX8, _, rfl⟩
theorem kvL_43 : KV RL 43 MX8_branch 8 3 := ⟨mwX8_branch, tbG_of 1172 (by decide +kernel) (by decide +kernel), tbG_of 1173 (by decide +kernel) (by decide +kernel), tbG_of 1171 (by decide +kernel) (by decide +kernel), by decide, TX8, _, rfl⟩
theorem kvX8_149 : KV RX8 149 MX8_mayBe 8 3 := ⟨mwX8_mayBe, tbG_of 1177 (by decide +kernel) (by decide +kernel), tbG_of 23 (by decide +kernel) (by decide +kernel), tbG_of 1175 (by decide +kernel) (by decide +kernel), by decide, TX8, _, rfl⟩
theorem kvL_47 : KV RL 47 MX8_branchOf 8 2 := ⟨mwX8_branchOf, tbG_of 1180 (by decide +kernel) (by decide +kernel), tbG_of 1181 (by decide +kernel) (by decide +kernel), tbG_of 1179 (by decide +kernel) (by decide +kernel), by decide, TX8, _, rfl⟩
theorem kvX8_152 : KV RX8 152 MX8_diggersIn 8 1 := ⟨mwX8_diggersIn, tbG_of 1185 (by decide +kernel) (by decide +kernel), tbG_of 24 (by decide +kernel) (by decide +kernel), tbG_of 1183 (by decide +kernel) (by decide +kernel), by decide, TX8, _, rfl⟩
theorem kvX8_155 : KV RX8 155 MX8_allDigs 8 1 := ⟨mwX8_allDigs, tbG_of 1189 (by decide +kernel) (by decide +kernel), tbG_of 25 (by decide +kernel) (by decide +kernel), tbG_of 1187 (by decide +kernel) (by decide +kernel), by decide, TX8, _, rfl⟩
theorem kvL_51 : KV RL 51 MX8_rule 8 2 := ⟨mwX8_rule, tbG_of 1192 (by decide +kernel) (by decide +kernel), tbG_of 1193 (by decide +kernel) (by decide +kernel), tbG_of 1191 (by decide +kernel) (by decide +kernel), by decide, TX8, _, rfl⟩
theorem kvL_56 : KV RL 56 MX8_deal 8 1 := ⟨mwX8_deal, tbG_of 1196 (by decide +kernel) (by decide +kernel), tbG_of 1197 (by decide +kernel) (by decide +kernel), tbG_of 1195 (by decide +kernel) (by decide +kernel), by decide, TX8, _, rfl⟩
theorem kvX8_159 : KV RX8 159 MX8_draw 8 0 := ⟨mwX8_draw, tbG_of 1201 (by decide +kernel) (by decide +kernel), tbG_of 26 (by decide +kernel) (by decide +kernel), tbG_of 1199 (by decide +kernel) (by decide +kernel), by decide, TX8, _, rfl⟩
theorem kvL_60 : KV RL 60 MX8_seed 8 1 := ⟨mwX8_seed, tbG_of 1205 (by decide +kernel) (by decide +kernel), tbG_of 1206 (by decide +kernel) (by decide +kernel), tbG_of 1204 (by decide +kernel) (by decide +kernel), by decide, TX8, _, rfl⟩
theorem kvL_64 : KV RL 64 MX8_nights 8 1 := ⟨mwX8_nights, tbG_of 1209 (by decide +kernel) (by decide +kernel), tbG_of 1210 (by decide +kernel) (by decide +kernel), tbG_of 1208 (by decide +kernel) (by decide +kernel), by decide, TX8, _, rfl⟩
theorem kvX8_173 : KV RX8 173 MX8_sums 8 1 := ⟨mwX8_sums, tbG_of 1214 (by decide +kernel) (by decide +kernel), tbG_of 27 (by decide +kernel) (by decide +kernel), tbG_of 1212 (by decide +kernel) (by decide +kernel), by decide, TX8, _, rfl⟩
theorem kvX8_176 : KV RX8 176 MX8_goesOn 8 1 := ⟨mwX8_goesOn, tbG_of 1218 (by decide +kernel) (by decide +kernel), tbG_of 28 (by decide +kernel) (by decide +kernel), tbG_of 1216 (by decide +kernel) (by decide +kernel), by decide, TX8, _, rfl⟩
theorem kvX8_170 : KV RX8 170 MX8_night 8 0 := ⟨mwX8_night, tbG_of 1222 (by decide +kernel) (by decide +kernel), tbG_of 29 (by decide +kernel) (by decide +kernel), tbG_of 1220 (by decide +kernel) (by decide +kernel), by decide, TX8, _, rfl⟩
theorem kvX8_163 : KV RX8 163 MX8_digs 8 1 := ⟨mwX8_digs, tbG_of 1226 (by decide +kernel) (by decide +kernel), tbG_of 30 (by decide +kernel) (by decide +kernel), tbG_of 1224 (by decide +kernel) (by decide +kernel), by decide, TX8, _, rfl⟩
theorem kvX8_167 : KV RX8 167 MX8_warder 8 1 := ⟨mwX8_warder, tbG_of 1230 (by decide +kernel) (by decide +kernel), tbG_of 31 (by decide +kernel) (by decide +kernel), tbG_of 1228 (by decide +kernel) (by decide +kernel), by decide, TX8, _, rfl⟩
theorem kvL_68 : KV RL 68 MX8_below 8 1 := ⟨mwX8_below, tbG_of 1233 (by decide +kernel) (by decide +kernel), tbG_of 1234 (by decide +kernel) (by decide +kernel), tbG_of 1232 (by decide +kernel) (by decide +kernel), by decide, TX8, _, rfl⟩
theorem kvX8_179 : KV RX8 179 MX8_peopled 8 0 := ⟨mwX8_peopled, tbG_of 1238 (by decide +kernel) (by decide +kernel), tbG_of 32 (by decide +kernel) (by decide +kernel), tbG_of 1236 (by decide +kernel) (by decide +kernel), by decide, TX8, _, rfl⟩
theorem kvX8_182 : KV RX8 182 MX8_front 8 0 := ⟨mwX8_front, tbG_of 1242 (by decide +kernel) (by decide +kernel), tbG_of 33 (by decide +kernel) (by decide +kernel), tbG_of 1240 (by decide +kernel) (by decide +kernel), by decide, TX8, _, rfl⟩
theorem kvL_72 : KV RL 72 MX8_behind 8 2 := ⟨mwX8_behind, tbG_of 1245 (by decide +kernel) (by decide +kernel), tbG_of 1246 (by decide +kernel) (by decide +kernel), tbG_of 1244 (by decide +kernel) (by decide +kernel), by decide, TX8, _, rfl⟩
theorem kvX8_189 : KV RX8 189 MX8_thinks 8 0 := ⟨mwX8_thinks, tbG_of 1250 (by decide +kernel) (by decide +kernel), tbG_of 34 (by decide +kernel) (by decide +kernel), tbG_of 1248 (by decide +kernel) (by decide +kernel), by decide, TX8, _, rfl⟩
theorem ksX8_185 : KS RX8 185 MX8_copyAll 2 := ⟨mwX8_copyAll, tbG_of 1253 (by decide +kernel) (by decide +kernel), Or.inl (tbG_of 1252 (by decide +kernel) (by decide +kernel))⟩
theorem kvX8_192 : KV RX8 192 MX8_putsBack 8 0 := ⟨mwX8_putsBack, tbG_of 1257 (by decide +kernel) (by decide +kernel), tbG_of 35 (by decide +kernel) (by decide +kernel), tbG_of 1255 (by decide +kernel) (by decide +kernel), by decide, TX8, _, rfl⟩
theorem kvL_76 : KV RL 76 MX8_reaches 8 2 := ⟨mwX8_reaches, tbG_of 1260 (by decide +kernel) (by decide +kernel), tbG_of 1261 (by decide +kernel) (by decide +kernel), tbG_of 1259 (by decide +kernel) (by decide +kernel), by decide, TX8, _, rfl⟩
theorem kvL_80 : KV RL 80 MX8_leaves 8 1 := ⟨mwX8_leaves, tbG_of 1265 (by decide +kernel) (by decide +kernel), tbG_of 1266 (by decide +kernel) (by decide +kernel), tbG_of 1264 (by decide +kernel) (by decide +kernel), by decide, TX8, _, rfl⟩
theorem kvL_84 : KV RL 84 MX8_light 8 2 := ⟨mwX8_light, tbG_of 1269 (by decide +kernel) (by decide +kernel), tbG_of 1270 (by decide +kernel) (by decide +kernel), tbG_of 1268 (by decide +kernel) (by decide +kernel), by decide, TX8, _, rfl⟩
theorem kvX8_196 : KV RX8 196 MX8_isHigh 8 3 := ⟨mwX8_isHigh, tbG_of 1274 (by decide +kernel) (by decide +kernel), tbG_of 36 (by decide +kernel) (by decide +kernel), tbG_of 1272 (by decide +kernel) (by decide +kernel), by decide, TX8, _, rfl⟩
theorem kvL_88 : KV RL 88 MX8_wax 8 3 := ⟨mwX8_wax, tbG_of 1277 (by decide +kernel) (by decide +kernel), tbG_of 1278 (by decide +kernel) (by decide +kernel), tbG_of 1276 (by decide +kernel) (by decide +kernel), by decide, TX8, _, rfl⟩
theorem kvX8_199 : KV RX8 199 MX8_earthOn 8 2 := ⟨mwX8_earthOn, tbG_of 1282 (by decide +kernel) (by decide +kernel), tbG_of 37 (by decide +kernel) (by decide +kernel), tbG_of 1280 (by decide +kernel) (by decide +kernel), by decide, TX8, _, rfl⟩
theorem kvL_92 : KV RL 92 MX8_sent 8 3 := ⟨mwX8_sent, tbG_of 1285 (by decide +kernel) (by decide +kernel), tbG_of 1286 (by decide +kernel) (by decide +kernel), tbG_of 1284 (by decide +kernel) (by decide +kernel), by decide, TX8, _, rfl⟩
theorem kvX8_202 : KV RX8 202 MX8_bestOf 8 5 := ⟨mwX8_bestOf, tbG_of 1290 (by decide +kernel) (by decide +kernel), tbG_of 38 (by decide +kernel) (by decide +kernel), tbG_of 1288 (by decide +kernel) (by decide +kernel), by decide, TX8, _, rfl⟩
theorem kvL_96 : KV RL 96 MX8_becomes 8 3 := ⟨mwX8_becomes, tbG_of 1293 (by decide +kernel) (by decide +kernel), tbG_of 1294 (by decide +kernel) (by decide +kernel), tbG_of 1292 (by decide +kernel) (by decide +kernel), by decide, TX8, _, rfl⟩
theorem kvL_100 : KV RL 100 MX8_like 8 2 := ⟨mwX8_like, tbG_of 1297 (by decide +kernel) (by decide +kernel), tbG_of 1298 (by decide +kernel) (by decide +kernel), tbG_of 1296 (by decide +kernel) (by decide +kernel), by decide, TX8, _, rfl⟩
theorem ksX8_206 : KS RX8 206 MX8_isSheet 1 := ⟨mwX8_isSheet, tbG_of 1301 (by decide +kernel) (by decide +kernel), Or.inl (tbG_of 1300 (by decide +kernel) (by decide +kernel))⟩
theorem ksX8_210 : KS RX8 210 MX8_off 1 := ⟨mwX8_off, tbG_of 1305 (by decide +kernel) (by decide +kernel), Or.inl (tbG_of 1304 (by decide +kernel) (by decide +kernel))⟩
theorem kvL_105 : KV RL 105 MX8_fee 8 0 := ⟨mwX8_fee, tbG_of 1308 (by decide +kernel) (by decide +kernel), tbG_of 1309 (by decide +kernel) (by decide +kernel), tbG_of 1307 (by decide +kernel) (by decide +kernel), by decide, TX8, _, rfl⟩
theorem kvL_109 : KV RL 109 MX8_fine 8 1 := ⟨mwX8_fine, tbG_of 1312 (by decide +kernel) (by decide +kernel), tbG_of 1313 (by decide +kernel) (by decide +kernel), tbG_of 1311 (by decide +kernel) (by decide +kernel), by decide, TX8, _, rfl⟩
theorem kvL_113 : KV RL 113 MX8_feed 8 3 := ⟨mwX8_feed, tbG_of 1316 (by decide +kernel) (by decide +kernel), tbG_of 1317 (by decide +kernel) (by decide +kernel), tbG_of 1315 (by decide +kernel) (by decide +kernel), by decide, TX8, _, rfl⟩
theorem kvL_117 : KV RL 117 MX8_trim 8 1 := ⟨mwX8_trim, tbG_of 1320 (by decide +kernel) (by decide +kernel), tbG_of 1321 (by decide +kernel) (by decide +kernel), tbG_of 1319 (by decide +kernel) (by decide +kernel), by decide, TX8, _, rfl⟩
theorem kvL_121 : KV RL 121 MX8_text 8 0 := ⟨mwX8_text, tbG_of 1324 (by decide +kernel) (by decide +kernel), tbG_of 1325 (by decide +kernel) (by decide +kernel), tbG_of 1323 (by decide +kernel) (by decide +kernel), by decide, TX8, _, rfl⟩
theorem kvX8_241 : KV RX8 241 MX8_go 8 0 := ⟨mwX8_go, tbG_of 1329 (by decide +kernel) (by decide +kernel), tbG_of 39 (by decide +kernel) (by decide +kernel), tbG_of 1327 (by decide +kernel) (by decide +kernel), by decide, TX8, _, rfl⟩
theorem kvX8_229 : KV RX8 229 MX8_isLetter 8 1 := ⟨mwX8_isLetter, tbG_of 1333 (by decide +kernel) (by decide +kernel), tbG_of 40 (by decide +kernel) (by decide +kernel), tbG_of 1331 (by decide +kernel) (by decide +kernel), by decide, TX8, _, rfl⟩
theorem kvX8_235 : KV RX8 235 MX8_isFigure 8 1 := ⟨mwX8_isFigure, tbG_of 1337 (by decide +kernel) (by decide +kernel), tbG_of 41 (by decide +kernel) (by decide +kernel), tbG_of 1335 (by decide +kernel) (by decide +kernel), by decide, TX8, _, rfl⟩
theorem kvX8_272 : KV RX8 272 MX8_takesKey 8 0 := ⟨mwX8_takesKey, tbG_of 1341 (by decide +kernel) (by decide +kernel), tbG_of 42 (by decide +kernel) (by decide +kernel), tbG_of 1339 (by decide +kernel) (by decide +kernel), by decide, TX8, _, rfl⟩
theorem kvX8_275 : KV RX8 275 MX8_takesE 8 0 := ⟨mwX8_takesE, tbG_of 1345 (by decide +kernel) (by decide +kernel), tbG_of 43 (by decide +kernel) (by decide +kernel), tbG_of 1343 (by decide +kernel) (by decide +kernel), by decide, TX8, _, rfl⟩
theorem kvX8_262 : KV RX8 262 MX8_takesPart 8 0 := ⟨mwX8_takesPart, tbG_of 1349 (by decide +kernel) (by decide +kernel), tbG_of 44 (by decide +kernel) (by decide +kernel), tbG_of 1347 (by decide +kernel) (by decide +kernel), by decide, TX8, _, rfl⟩
theorem kvX8_253 : KV RX8 253 MX8_nameOf 8 1 := ⟨mwX8_nameOf, tbG_of 1353 (by decide +kernel) (by decide +kernel), tbG_of 45 (by decide +kernel) (by decide +kernel), tbG_of 1351 (by decide +kernel) (by decide +kernel), by decide, TX8, _, rfl⟩
theorem kvX8_259 : KV RX8 259 MX8_settle 8 1 := ⟨mwX8_settle, tbG_of 1357 (by decide +kernel) (by decide +kernel), tbG_of 46 (by decide +kernel) (by decide +kernel), tbG_of 1355 (by decide +kernel) (by decide +kernel), by decide, TX8, _, rfl⟩
theorem ksX8_247 : KS RX8 247 MX8_rank 1 := ⟨mwX8_rank, tbG_of 1360 (by decide +kernel) (by decide +kernel), Or.inl (tbG_of 1359 (by decide +kernel) (by decide +kernel))⟩
theorem kvX8_266 : KV RX8 266 MX8_notsOpen 8 0 := ⟨mwX8_notsOpen, tbG_of 1364 (by decide +kernel) (by decide +kernel), tbG_of 47 (by decide +kernel) (by decide +kernel), tbG_of 1362 (by decide +kernel) (by decide +kernel), by decide, TX8, _, rfl⟩
theorem kvX8_269 : KV RX8 269 MX8_signHere 8 0 := ⟨mwX8_signHere, tbG_of 1368 (by decide +kernel) (by decide +kernel), tbG_of 48 (by decide +kernel) (by decide +kernel), tbG_of 1366 (by decide +kernel) (by decide +kernel), by decide, TX8, _, rfl⟩
theorem kvL_125 : KV RL 125 MX8_textTold 8 2 := ⟨mwX8_textTold, tbG_of 1371 (by decide +kernel) (by decide +kernel), tbG_of 1372 (by decide +kernel) (by decide +kernel), tbG_of 1370 (by decide +kernel) (by decide +kernel), by decide, TX8, _, rfl⟩
theorem kvL_129 : KV RL 129 MX8_why 8 1 := ⟨mwX8_why, tbG_of 1375 (by decide +kernel) (by decide +kernel), tbG_of 1376 (by decide +kernel) (by decide +kernel), tbG_of 1374 (by decide +kernel) (by decide +kernel), by decide, TX8, _, rfl⟩
theorem kvL_133 : KV RL 133 MX8_sheet 8 3 := ⟨mwX8_sheet, tbG_of 1379 (by decide +kernel) (by decide +kernel), tbG_of 1380 (by decide +kernel) (by decide +kernel), tbG_of 1378 (by decide +kernel) (by decide +kernel), by decide, TX8, _, rfl⟩
theorem kvL_137 : KV RL 137 MX8_mark 8 3 := ⟨mwX8_mark, tbG_of 1384 (by decide +kernel) (by decide +kernel), tbG_of 1385 (by decide +kernel) (by decide +kernel), tbG_of 1383 (by decide +kernel) (by decide +kernel), by decide, TX8, _, rfl⟩
theorem kvL_141 : KV RL 141 MX8_pour 8 1 := ⟨mwX8_pour, tbG_of 1391 (by decide +kernel) (by decide +kernel), tbG_of 1392 (by decide +kernel) (by decide +kernel), tbG_of 1390 (by decide +kernel) (by decide +kernel), by decide, TX8, _, rfl⟩
theorem kvL_145 : KV RL 145 MX8_reads 8 1 := ⟨mwX8_reads, tbG_of 1395 (by decide +kernel) (by decide +kernel), tbG_of 1396 (by decide +kernel) (by decide +kernel), tbG_of 1394 (by decide +kernel) (by decide +kernel), by decide, TX8, _, rfl⟩
theorem kvL_150 : KV RL 150 MX8_copy 8 5 := ⟨mwX8_copy, tbG_of 1399 (by decide +kernel) (by decide +kernel), tbG_of 1400 (by decide +kernel) (by decide +kernel), tbG_of 1398 (by decide +kernel) (by decide +kernel), by decide, TX8, _, rfl⟩
theorem kvL_154 : KV RL 154 MX8_lay 8 3 := ⟨mwX8_lay, tbG_of 1403 (by decide +kernel) (by decide +kernel), tbG_of 1404 (by decide +kernel) (by decide +kernel), tbG_of 1402 (by decide +kernel) (by decide +kernel), by decide, TX8, _, rfl⟩
theorem ksX8_285 : KS RX8 285 MX8_isSlot 1 := ⟨mwX8_isSlot, tbG_of 1407 (by decide +kernel) (by decide +kernel), Or.inl (tbG_of 1406 (by decide +kernel) (by decide +kernel))⟩
theorem kvL_158 : KV RL 158 MX8_ask 8 2 := ⟨mwX8_ask, tbG_of 1410 (by decide +kernel) (by decide +kernel), tbG_of 1411 (by decide +kernel) (by decide +kernel), tbG_of 1409 (by decide +kernel) (by decide +kernel), by decide, TX8, _, rfl⟩
theorem kvL_162 : KV RL 162 MX8_item 8 2 := ⟨mwX8_item, tbG_of 1414 (by decide +kernel) (by decide +kernel), tbG_of 1415 (by decide +kernel) (by decide +kernel), tbG_of 1413 (by decide +kernel) (by decide +kernel), by decide, TX8, _, rfl⟩
theorem kvL_166 : KV RL 166 MX8_rest 8 2 := ⟨mwX8_rest, tbG_of 1418 (by decide +kernel) (by decide +kernel), tbG_of 1419 (by decide +kernel) (by decide +kernel), tbG_of 1417 (by decide +kernel) (by decide +kernel), by decide, TX8, _, rfl⟩
theorem kvL_170 : KV RL 170 MX8_tell 8 1 := ⟨mwX8_tell, tbG_of 1423 (by decide +kernel) (by decide +kernel), tbG_of 1424 (by decide +kernel) (by decide +kernel), tbG_of 1422 (by decide +kernel) (by decide +kernel), by decide, TX8, _, rfl⟩
theorem kvL_174 : KV RL 174 MX8_check 8 1 := ⟨mwX8_check, tbG_of 1427 (by decide +kernel) (by decide +kernel), tbG_of 1428 (by decide +kernel) (by decide +kernel), tbG_of 1426 (by decide +kernel) (by decide +kernel), by decide, TX8, _, rfl⟩
theorem kvX8_296 : KV RX8 296 MX8_allDug 8 0 := ⟨mwX8_allDug, tbG_of 1432 (by decide +kernel) (by decide +kernel), tbG_of 49 (by decide +kernel) (by decide +kernel), tbG_of 1430 (by decide +kernel) (by decide +kernel), by decide, TX8, _, rfl⟩
theorem kvL_178 : KV RL 178 MX8_keep 8 0 := ⟨mwX8_keep, tbG_of 1435 (by decide +kernel) (by decide +kernel), tbG_of 1436 (by decide +kernel) (by decide +kernel), tbG_of 1434 (by decide +kernel) (by decide +kernel), by decide, TX8, _, rfl⟩
theorem kvL_182 : KV RL 182 MX8_back 8 0 := ⟨mwX8_back, tbG_of 1439 (by decide +kernel) (by decide +kernel), tbG_of 1440 (by decide +kernel) (by decide +kernel), tbG_of 1438 (by decide +kernel) (by decide +kernel), by decide, TX8, _, rfl⟩
theorem kvL_186 : KV RL 186 MX8_count 8 1 := ⟨mwX8_count, tbG_of 1443 (by decide +kernel) (by decide +kernel), tbG_of 1444 (by decide +kernel) (by decide +kernel), tbG_of 1442 (by decide +kernel) (by decide +kernel), by decide, TX8, _, rfl⟩
theorem kiX2_28 : KI RX2 28 MX1_init 0 := ⟨mwX1_init, tbG_of 186 (by decide +kernel) (by decide +kernel), rfl, rfl, Or.inr ⟨"SpoonPassage", fun s h => h.1⟩⟩
theorem kiX5_9 : KI RX5 9 MX1_init 0 := ⟨mwX1_init, tbG_of 186 (by decide +kernel) (by decide +kernel), rfl, rfl, Or.inr ⟨"SpoonPassage", fun s h => h.2.1⟩⟩
theorem ksX2_165 : KS RX2 165 MX7_held 1 := ⟨mwX7_held, tbG_of 378 (by decide +kernel) (by decide +kernel), Or.inr ⟨"SpoonPassage", fun s h => h.2.2.1⟩⟩
theorem ksX2_102 : KS RX2 102 MX7_within 3 := ⟨mwX7_within, tbG_of 349 (by decide +kernel) (by decide +kernel), Or.inr ⟨"SpoonPassage", fun s h => h.2.2.2.1⟩⟩
