abbrev mX0_init : MN := (yX0_init, cX0_init, 1, none)
set_option maxRecDepth 20000 in
theorem oX0_init : MO mX0_init 0 := ⟨(Gs_of (tb_1 (i := 163) rfl) rfl), (Gs_of (tb_1 (i := 6) (by decide +kernel)) rfl), ⟨by decide +kernel, by decide +kernel, by decide +kernel⟩, Nat.le_of_ble_eq_true rfl⟩
abbrev mX0_forgetTrace : MN := (yX0_forgetTrace, cX0_forgetTrace, 1, none)
set_option maxRecDepth 20000 in
theorem oX0_forgetTrace : MO mX0_forgetTrace 0 := ⟨(Gs_of (tb_4 (i := 8) rfl) rfl), (Gs_of (tb_1 (i := 6) (by decide +kernel)) rfl), ⟨by decide +kernel, by decide +kernel, by decide +kernel⟩, Nat.le_of_ble_eq_true rfl⟩
theorem vX0_forgetTrace : MV mX0_forgetTrace 0 := ⟨oX0_forgetTrace, (Gs_of (tb_4 (i := 7) (by decide +kernel)) rfl), Gs_sel (i := 49) (q := (yX0_forgetTrace, 5)) (by decide +kernel) rfl⟩
abbrev mX0_play : MN := (yX0_play, cX0_play, 5, (some .int))
set_option maxRecDepth 20000 in
theorem oX0_play : MO mX0_play 4 := ⟨(Gs_of (tb_4 (i := 12) rfl) rfl), (Gs_of (tb_1 (i := 6) (by decide +kernel)) rfl), ⟨by decide +kernel, by decide +kernel, by decide +kernel⟩, Nat.le_of_ble_eq_true rfl⟩
theorem vX0_play : MV mX0_play 4 := ⟨oX0_play, (Gs_of (tb_4 (i := 11) (by decide +kernel)) rfl), Gs_sel (i := 50) (q := (yX0_play, 5)) (by decide +kernel) rfl⟩
abbrev mX0_run : MN := (yX0_run, cX0_run, 6, (some .int))
set_option maxRecDepth 20000 in
theorem oX0_run : MO mX0_run 4 := ⟨(Gs_of (tb_4 (i := 17) rfl) rfl), (Gs_of (tb_1 (i := 6) (by decide +kernel)) rfl), ⟨by decide +kernel, by decide +kernel, by decide +kernel⟩, Nat.le_of_ble_eq_true rfl⟩
theorem vX0_run : MV mX0_run 4 := ⟨oX0_run, (Gs_of (tb_4 (i := 16) (by decide +kernel)) rfl), Gs_sel (i := 51) (q := (yX0_run, 5)) (by decide +kernel) rfl⟩
abbrev mX0_runBody : MN := (yX0_runBody, cX0_runBody, 4, (some .int))
set_option maxRecDepth 20000 in
theorem oX0_runBody : MO mX0_runBody 3 := ⟨(Gs_of (tb_4 (i := 28) rfl) rfl), (Gs_of (tb_1 (i := 6) (by decide +kernel)) rfl), ⟨by decide +kernel, by decide +kernel, by decide +kernel⟩, Nat.le_of_ble_eq_true rfl⟩
theorem vX0_runBody : MV mX0_runBody 3 := ⟨oX0_runBody, (Gs_of (tb_4 (i := 27) (by decide +kernel)) rfl), Gs_sel (i := 52) (q := (yX0_runBody, 5)) (by decide +kernel) rfl⟩
abbrev mX0_bodyOf : MN := (yX0_bodyOf, cX0_bodyOf, 5, (some .int))
set_option maxRecDepth 20000 in
theorem oX0_bodyOf : MO mX0_bodyOf 2 := ⟨(Gs_of (tb_4 (i := 20) rfl) rfl), (Gs_of (tb_1 (i := 6) (by decide +kernel)) rfl), ⟨by decide +kernel, by decide +kernel, by decide +kernel⟩, Nat.le_of_ble_eq_true rfl⟩
theorem sX0_bodyOf : MS mX0_bodyOf 2 := ⟨oX0_bodyOf, (Gs_of (tb_4 (i := 19) (by decide +kernel)) rfl)⟩
abbrev mX1_init : MN := (yX1_init, cX1_init, 1, none)
set_option maxRecDepth 20000 in
theorem oX1_init : MO mX1_init 0 := ⟨(Gs_of (tb_1 (i := 106) rfl) rfl), (Gs_of (tb_1 (i := 4) (by decide +kernel)) rfl), ⟨by decide +kernel, by decide +kernel, by decide +kernel⟩, Nat.le_of_ble_eq_true rfl⟩
abbrev mX1_become : MN := (yX1_become, cX1_become, 2, none)
set_option maxRecDepth 20000 in
theorem oX1_become : MO mX1_become 1 := ⟨(Gs_of (tb_3 (i := 235) rfl) rfl), (Gs_of (tb_1 (i := 4) (by decide +kernel)) rfl), ⟨by decide +kernel, by decide +kernel, by decide +kernel⟩, Nat.le_of_ble_eq_true rfl⟩
theorem vX1_become : MV mX1_become 1 := ⟨oX1_become, (Gs_of (tb_3 (i := 234) (by decide +kernel)) rfl), Gs_sel (i := 48) (q := (yX1_become, 9)) (by decide +kernel) rfl⟩
abbrev mX1_addSeen : MN := (yX1_addSeen, cX1_addSeen, 4, (some .int))
set_option maxRecDepth 20000 in
theorem oX1_addSeen : MO mX1_addSeen 3 := ⟨(Gs_of (tb_3 (i := 162) rfl) rfl), (Gs_of (tb_1 (i := 4) (by decide +kernel)) rfl), ⟨by decide +kernel, by decide +kernel, by decide +kernel⟩, Nat.le_of_ble_eq_true rfl⟩
theorem vX1_addSeen : MV mX1_addSeen 3 := ⟨oX1_addSeen, (Gs_of (tb_3 (i := 161) (by decide +kernel)) rfl), Gs_sel (i := 42) (q := (yX1_addSeen, 9)) (by decide +kernel) rfl⟩
abbrev mX1_addStep : MN := (yX1_addStep, cX1_addStep, 2, (some .int))
set_option maxRecDepth 20000 in
theorem oX1_addStep : MO mX1_addStep 1 := ⟨(Gs_of (tb_3 (i := 192) rfl) rfl), (Gs_of (tb_1 (i := 4) (by decide +kernel)) rfl), ⟨by decide +kernel, by decide +kernel, by decide +kernel⟩, Nat.le_of_ble_eq_true rfl⟩
theorem vX1_addStep : MV mX1_addStep 1 := ⟨oX1_addStep, (Gs_of (tb_3 (i := 191) (by decide +kernel)) rfl), Gs_sel (i := 44) (q := (yX1_addStep, 9)) (by decide +kernel) rfl⟩
abbrev mX1_addRow : MN := (yX1_addRow, cX1_addRow, 3, (some .int))
set_option maxRecDepth 20000 in
theorem oX1_addRow : MO mX1_addRow 2 := ⟨(Gs_of (tb_3 (i := 212) rfl) rfl), (Gs_of (tb_1 (i := 4) (by decide +kernel)) rfl), ⟨by decide +kernel, by decide +kernel, by decide +kernel⟩, Nat.le_of_ble_eq_true rfl⟩
theorem vX1_addRow : MV mX1_addRow 2 := ⟨oX1_addRow, (Gs_of (tb_3 (i := 211) (by decide +kernel)) rfl), Gs_sel (i := 46) (q := (yX1_addRow, 9)) (by decide +kernel) rfl⟩
abbrev mX1_allSeenOn : MN := (yX1_allSeenOn, cX1_allSeenOn, 4, (some .boolean))
set_option maxRecDepth 20000 in
theorem oX1_allSeenOn : MO mX1_allSeenOn 1 := ⟨(Gs_of (tb_3 (i := 170) rfl) rfl), (Gs_of (tb_1 (i := 4) (by decide +kernel)) rfl), ⟨by decide +kernel, by decide +kernel, by decide +kernel⟩, Nat.le_of_ble_eq_true rfl⟩
theorem vX1_allSeenOn : MV mX1_allSeenOn 1 := ⟨oX1_allSeenOn, (Gs_of (tb_3 (i := 169) (by decide +kernel)) rfl), Gs_sel (i := 43) (q := (yX1_allSeenOn, 9)) (by decide +kernel) rfl⟩
abbrev mX1_danceOn : MN := (yX1_danceOn, cX1_danceOn, 3, none)
set_option maxRecDepth 20000 in
theorem oX1_danceOn : MO mX1_danceOn 1 := ⟨(Gs_of (tb_3 (i := 200) rfl) rfl), (Gs_of (tb_1 (i := 4) (by decide +kernel)) rfl), ⟨by decide +kernel, by decide +kernel, by decide +kernel⟩, Nat.le_of_ble_eq_true rfl⟩
theorem vX1_danceOn : MV mX1_danceOn 1 := ⟨oX1_danceOn, (Gs_of (tb_3 (i := 199) (by decide +kernel)) rfl), Gs_sel (i := 45) (q := (yX1_danceOn, 9)) (by decide +kernel) rfl⟩
abbrev mX1_followRound : MN := (yX1_followRound, cX1_followRound, 2, none)
set_option maxRecDepth 20000 in
theorem oX1_followRound : MO mX1_followRound 1 := ⟨(Gs_of (tb_3 (i := 203) rfl) rfl), (Gs_of (tb_1 (i := 4) (by decide +kernel)) rfl), ⟨by decide +kernel, by decide +kernel, by decide +kernel⟩, Nat.le_of_ble_eq_true rfl⟩
theorem sX1_followRound : MS mX1_followRound 1 := ⟨oX1_followRound, (Gs_of (tb_3 (i := 202) (by decide +kernel)) rfl)⟩
abbrev mX1_firstWrongRow : MN := (yX1_firstWrongRow, cX1_firstWrongRow, 3, (some .int))
set_option maxRecDepth 20000 in
theorem oX1_firstWrongRow : MO mX1_firstWrongRow 1 := ⟨(Gs_of (tb_3 (i := 220) rfl) rfl), (Gs_of (tb_1 (i := 4) (by decide +kernel)) rfl), ⟨by decide +kernel, by decide +kernel, by decide +kernel⟩, Nat.le_of_ble_eq_true rfl⟩
theorem vX1_firstWrongRow : MV mX1_firstWrongRow 1 := ⟨oX1_firstWrongRow, (Gs_of (tb_3 (i := 219) (by decide +kernel)) rfl), Gs_sel (i := 47) (q := (yX1_firstWrongRow, 9)) (by decide +kernel) rfl⟩
abbrev mX2_init : MN := (yX2_init, cX2_init, 2, none)
set_option maxRecDepth 20000 in
theorem oX2_init : MO mX2_init 1 := ⟨(Gs_of (tb_1 (i := 62) rfl) rfl), (Gs_of (tb_1 (i := 3) (by decide +kernel)) rfl), ⟨by decide +kernel, by decide +kernel, by decide +kernel⟩, Nat.le_of_ble_eq_true rfl⟩
abbrev mX2_become : MN := (yX2_become, cX2_become, 2, none)
set_option maxRecDepth 20000 in
theorem oX2_become : MO mX2_become 1 := ⟨(Gs_of (tb_3 (i := 72) rfl) rfl), (Gs_of (tb_1 (i := 3) (by decide +kernel)) rfl), ⟨by decide +kernel, by decide +kernel, by decide +kernel⟩, Nat.le_of_ble_eq_true rfl⟩
theorem vX2_become : MV mX2_become 1 := ⟨oX2_become, (Gs_of (tb_3 (i := 71) (by decide +kernel)) rfl), Gs_sel (i := 32) (q := (yX2_become, 9)) (by decide +kernel) rfl⟩
abbrev mX2_has : MN := (yX2_has, cX2_has, 2, (some .boolean))
set_option maxRecDepth 20000 in
theorem oX2_has : MO mX2_has 1 := ⟨(Gs_of (tb_2 (i := 20) rfl) rfl), (Gs_of (tb_1 (i := 3) (by decide +kernel)) rfl), ⟨by decide +kernel, by decide +kernel, by decide +kernel⟩, Nat.le_of_ble_eq_true rfl⟩
theorem vX2_has : MV mX2_has 1 := ⟨oX2_has, (Gs_of (tb_2 (i := 19) (by decide +kernel)) rfl), Gs_sel (i := 3) (q := (yX2_has, 9)) (by decide +kernel) rfl⟩
abbrev mX2_hasPlace : MN := (yX2_hasPlace, cX2_hasPlace, 2, (some .boolean))
set_option maxRecDepth 20000 in
theorem oX2_hasPlace : MO mX2_hasPlace 1 := ⟨(Gs_of (tb_2 (i := 8) rfl) rfl), (Gs_of (tb_1 (i := 3) (by decide +kernel)) rfl), ⟨by decide +kernel, by decide +kernel, by decide +kernel⟩, Nat.le_of_ble_eq_true rfl⟩
theorem vX2_hasPlace : MV mX2_hasPlace 1 := ⟨oX2_hasPlace, (Gs_of (tb_2 (i := 7) (by decide +kernel)) rfl), Gs_sel (i := 0) (q := (yX2_hasPlace, 9)) (by decide +kernel) rfl⟩
abbrev mX2_wasOf : MN := (yX2_wasOf, cX2_wasOf, 3, (some .int))
set_option maxRecDepth 20000 in
theorem oX2_wasOf : MO mX2_wasOf 2 := ⟨(Gs_of (tb_2 (i := 50) rfl) rfl), (Gs_of (tb_1 (i := 3) (by decide +kernel)) rfl), ⟨by decide +kernel, by decide +kernel, by decide +kernel⟩, Nat.le_of_ble_eq_true rfl⟩
theorem vX2_wasOf : MV mX2_wasOf 2 := ⟨oX2_wasOf, (Gs_of (tb_2 (i := 49) (by decide +kernel)) rfl), Gs_sel (i := 8) (q := (yX2_wasOf, 9)) (by decide +kernel) rfl⟩
abbrev mX2_join : MN := (yX2_join, cX2_join, 6, (some .int))
set_option maxRecDepth 20000 in
theorem oX2_join : MO mX2_join 3 := ⟨(Gs_of (tb_2 (i := 12) rfl) rfl), (Gs_of (tb_1 (i := 3) (by decide +kernel)) rfl), ⟨by decide +kernel, by decide +kernel, by decide +kernel⟩, Nat.le_of_ble_eq_true rfl⟩
theorem vX2_join : MV mX2_join 3 := ⟨oX2_join, (Gs_of (tb_2 (i := 11) (by decide +kernel)) rfl), Gs_sel (i := 1) (q := (yX2_join, 9)) (by decide +kernel) rfl⟩
abbrev mX2_follow : MN := (yX2_follow, cX2_follow, 3, none)
set_option maxRecDepth 20000 in
theorem oX2_follow : MO mX2_follow 2 := ⟨(Gs_of (tb_2 (i := 69) rfl) rfl), (Gs_of (tb_1 (i := 3) (by decide +kernel)) rfl), ⟨by decide +kernel, by decide +kernel, by decide +kernel⟩, Nat.le_of_ble_eq_true rfl⟩
theorem vX2_follow : MV mX2_follow 2 := ⟨oX2_follow, (Gs_of (tb_2 (i := 68) (by decide +kernel)) rfl), Gs_sel (i := 10) (q := (yX2_follow, 9)) (by decide +kernel) rfl⟩
abbrev mX2_standAt : MN := (yX2_standAt, cX2_standAt, 4, none)
set_option maxRecDepth 20000 in
theorem oX2_standAt : MO mX2_standAt 2 := ⟨(Gs_of (tb_2 (i := 16) rfl) rfl), (Gs_of (tb_1 (i := 3) (by decide +kernel)) rfl), ⟨by decide +kernel, by decide +kernel, by decide +kernel⟩, Nat.le_of_ble_eq_true rfl⟩
theorem vX2_standAt : MV mX2_standAt 2 := ⟨oX2_standAt, (Gs_of (tb_2 (i := 15) (by decide +kernel)) rfl), Gs_sel (i := 2) (q := (yX2_standAt, 9)) (by decide +kernel) rfl⟩
abbrev mX2_wrapAll : MN := (yX2_wrapAll, cX2_wrapAll, 2, none)
set_option maxRecDepth 20000 in
theorem oX2_wrapAll : MO mX2_wrapAll 0 := ⟨(Gs_of (tb_3 (i := 31) rfl) rfl), (Gs_of (tb_1 (i := 3) (by decide +kernel)) rfl), ⟨by decide +kernel, by decide +kernel, by decide +kernel⟩, Nat.le_of_ble_eq_true rfl⟩
theorem vX2_wrapAll : MV mX2_wrapAll 0 := ⟨oX2_wrapAll, (Gs_of (tb_3 (i := 30) (by decide +kernel)) rfl), Gs_sel (i := 26) (q := (yX2_wrapAll, 9)) (by decide +kernel) rfl⟩
abbrev mX2_letterOf : MN := (yX2_letterOf, cX2_letterOf, 3, (some .int))
set_option maxRecDepth 20000 in
theorem oX2_letterOf : MO mX2_letterOf 2 := ⟨(Gs_of (tb_2 (i := 41) rfl) rfl), (Gs_of (tb_1 (i := 3) (by decide +kernel)) rfl), ⟨by decide +kernel, by decide +kernel, by decide +kernel⟩, Nat.le_of_ble_eq_true rfl⟩
theorem vX2_letterOf : MV mX2_letterOf 2 := ⟨oX2_letterOf, (Gs_of (tb_2 (i := 40) (by decide +kernel)) rfl), Gs_sel (i := 6) (q := (yX2_letterOf, 9)) (by decide +kernel) rfl⟩
abbrev mX2_goesOf : MN := (yX2_goesOf, cX2_goesOf, 8, (some .int))
set_option maxRecDepth 20000 in
theorem oX2_goesOf : MO mX2_goesOf 1 := ⟨(Gs_of (tb_2 (i := 45) rfl) rfl), (Gs_of (tb_1 (i := 3) (by decide +kernel)) rfl), ⟨by decide +kernel, by decide +kernel, by decide +kernel⟩, Nat.le_of_ble_eq_true rfl⟩
theorem vX2_goesOf : MV mX2_goesOf 1 := ⟨oX2_goesOf, (Gs_of (tb_2 (i := 44) (by decide +kernel)) rfl), Gs_sel (i := 7) (q := (yX2_goesOf, 9)) (by decide +kernel) rfl⟩
abbrev mX2_isLazyNow : MN := (yX2_isLazyNow, cX2_isLazyNow, 2, (some .boolean))
set_option maxRecDepth 20000 in
theorem oX2_isLazyNow : MO mX2_isLazyNow 1 := ⟨(Gs_of (tb_2 (i := 54) rfl) rfl), (Gs_of (tb_1 (i := 3) (by decide +kernel)) rfl), ⟨by decide +kernel, by decide +kernel, by decide +kernel⟩, Nat.le_of_ble_eq_true rfl⟩
theorem vX2_isLazyNow : MV mX2_isLazyNow 1 := ⟨oX2_isLazyNow, (Gs_of (tb_2 (i := 53) (by decide +kernel)) rfl), Gs_sel (i := 9) (q := (yX2_isLazyNow, 9)) (by decide +kernel) rfl⟩
abbrev mX2_goBeat : MN := (yX2_goBeat, cX2_goBeat, 5, none)
set_option maxRecDepth 20000 in
theorem oX2_goBeat : MO mX2_goBeat 1 := ⟨(Gs_of (tb_3 (i := 52) rfl) rfl), (Gs_of (tb_1 (i := 3) (by decide +kernel)) rfl), ⟨by decide +kernel, by decide +kernel, by decide +kernel⟩, Nat.le_of_ble_eq_true rfl⟩
theorem vX2_goBeat : MV mX2_goBeat 1 := ⟨oX2_goBeat, (Gs_of (tb_3 (i := 51) (by decide +kernel)) rfl), Gs_sel (i := 29) (q := (yX2_goBeat, 9)) (by decide +kernel) rfl⟩
abbrev mX2_goBeats : MN := (yX2_goBeats, cX2_goBeats, 3, none)
set_option maxRecDepth 20000 in
theorem oX2_goBeats : MO mX2_goBeats 1 := ⟨(Gs_of (tb_3 (i := 48) rfl) rfl), (Gs_of (tb_1 (i := 3) (by decide +kernel)) rfl), ⟨by decide +kernel, by decide +kernel, by decide +kernel⟩, Nat.le_of_ble_eq_true rfl⟩
theorem vX2_goBeats : MV mX2_goBeats 1 := ⟨oX2_goBeats, (Gs_of (tb_3 (i := 47) (by decide +kernel)) rfl), Gs_sel (i := 28) (q := (yX2_goBeats, 9)) (by decide +kernel) rfl⟩
abbrev mX2_beatsTillTogether : MN := (yX2_beatsTillTogether, cX2_beatsTillTogether, 4, (some .int))
set_option maxRecDepth 20000 in
theorem oX2_beatsTillTogether : MO mX2_beatsTillTogether 2 := ⟨(Gs_of (tb_3 (i := 93) rfl) rfl), (Gs_of (tb_1 (i := 3) (by decide +kernel)) rfl), ⟨by decide +kernel, by decide +kernel, by decide +kernel⟩, Nat.le_of_ble_eq_true rfl⟩
theorem vX2_beatsTillTogether : MV mX2_beatsTillTogether 2 := ⟨oX2_beatsTillTogether, (Gs_of (tb_3 (i := 92) (by decide +kernel)) rfl), Gs_sel (i := 35) (q := (yX2_beatsTillTogether, 9)) (by decide +kernel) rfl⟩
abbrev mX2_beatsAlone : MN := (yX2_beatsAlone, cX2_beatsAlone, 5, (some .int))
set_option maxRecDepth 20000 in
theorem oX2_beatsAlone : MO mX2_beatsAlone 2 := ⟨(Gs_of (tb_3 (i := 131) rfl) rfl), (Gs_of (tb_1 (i := 3) (by decide +kernel)) rfl), ⟨by decide +kernel, by decide +kernel, by decide +kernel⟩, Nat.le_of_ble_eq_true rfl⟩
theorem vX2_beatsAlone : MV mX2_beatsAlone 2 := ⟨oX2_beatsAlone, (Gs_of (tb_3 (i := 130) (by decide +kernel)) rfl), Gs_sel (i := 39) (q := (yX2_beatsAlone, 9)) (by decide +kernel) rfl⟩
abbrev mX2_areTogether : MN := (yX2_areTogether, cX2_areTogether, 2, (some .boolean))
set_option maxRecDepth 20000 in
theorem oX2_areTogether : MO mX2_areTogether 0 := ⟨(Gs_of (tb_3 (i := 97) rfl) rfl), (Gs_of (tb_1 (i := 3) (by decide +kernel)) rfl), ⟨by decide +kernel, by decide +kernel, by decide +kernel⟩, Nat.le_of_ble_eq_true rfl⟩
theorem vX2_areTogether : MV mX2_areTogether 0 := ⟨oX2_areTogether, (Gs_of (tb_3 (i := 96) (by decide +kernel)) rfl), Gs_sel (i := 36) (q := (yX2_areTogether, 9)) (by decide +kernel) rfl⟩
abbrev mX2_isAlone : MN := (yX2_isAlone, cX2_isAlone, 3, (some .boolean))
set_option maxRecDepth 20000 in
theorem oX2_isAlone : MO mX2_isAlone 1 := ⟨(Gs_of (tb_3 (i := 135) rfl) rfl), (Gs_of (tb_1 (i := 3) (by decide +kernel)) rfl), ⟨by decide +kernel, by decide +kernel, by decide +kernel⟩, Nat.le_of_ble_eq_true rfl⟩
theorem vX2_isAlone : MV mX2_isAlone 1 := ⟨oX2_isAlone, (Gs_of (tb_3 (i := 134) (by decide +kernel)) rfl), Gs_sel (i := 40) (q := (yX2_isAlone, 9)) (by decide +kernel) rfl⟩
abbrev mX2_nobodyMoves : MN := (yX2_nobodyMoves, cX2_nobodyMoves, 2, (some .boolean))
set_option maxRecDepth 20000 in
theorem oX2_nobodyMoves : MO mX2_nobodyMoves 0 := ⟨(Gs_of (tb_3 (i := 105) rfl) rfl), (Gs_of (tb_1 (i := 3) (by decide +kernel)) rfl), ⟨by decide +kernel, by decide +kernel, by decide +kernel⟩, Nat.le_of_ble_eq_true rfl⟩
theorem vX2_nobodyMoves : MV mX2_nobodyMoves 0 := ⟨oX2_nobodyMoves, (Gs_of (tb_3 (i := 104) (by decide +kernel)) rfl), Gs_sel (i := 37) (q := (yX2_nobodyMoves, 9)) (by decide +kernel) rfl⟩
abbrev mX2_standsAs : MN := (yX2_standsAs, cX2_standsAs, 3, (some .boolean))
set_option maxRecDepth 20000 in
theorem oX2_standsAs : MO mX2_standsAs 1 := ⟨(Gs_of (tb_3 (i := 85) rfl) rfl), (Gs_of (tb_1 (i := 3) (by decide +kernel)) rfl), ⟨by decide +kernel, by decide +kernel, by decide +kernel⟩, Nat.le_of_ble_eq_true rfl⟩
theorem vX2_standsAs : MV mX2_standsAs 1 := ⟨oX2_standsAs, (Gs_of (tb_3 (i := 84) (by decide +kernel)) rfl), Gs_sel (i := 34) (q := (yX2_standsAs, 9)) (by decide +kernel) rfl⟩
abbrev mX2_placesTaken : MN := (yX2_placesTaken, cX2_placesTaken, 5, (some .int))
set_option maxRecDepth 20000 in
theorem oX2_placesTaken : MO mX2_placesTaken 0 := ⟨(Gs_of (tb_3 (i := 40) rfl) rfl), (Gs_of (tb_1 (i := 3) (by decide +kernel)) rfl), ⟨by decide +kernel, by decide +kernel, by decide +kernel⟩, Nat.le_of_ble_eq_true rfl⟩
theorem vX2_placesTaken : MV mX2_placesTaken 0 := ⟨oX2_placesTaken, (Gs_of (tb_3 (i := 39) (by decide +kernel)) rfl), Gs_sel (i := 27) (q := (yX2_placesTaken, 9)) (by decide +kernel) rfl⟩
abbrev mX2_apart : MN := (yX2_apart, cX2_apart, 4, (some .int))
set_option maxRecDepth 20000 in
theorem oX2_apart : MO mX2_apart 2 := ⟨(Gs_of (tb_3 (i := 117) rfl) rfl), (Gs_of (tb_1 (i := 3) (by decide +kernel)) rfl), ⟨by decide +kernel, by decide +kernel, by decide +kernel⟩, Nat.le_of_ble_eq_true rfl⟩
theorem vX2_apart : MV mX2_apart 2 := ⟨oX2_apart, (Gs_of (tb_3 (i := 116) (by decide +kernel)) rfl), Gs_sel (i := 38) (q := (yX2_apart, 9)) (by decide +kernel) rfl⟩
abbrev mX2_countStanding : MN := (yX2_countStanding, cX2_countStanding, 4, none)
set_option maxRecDepth 20000 in
theorem oX2_countStanding : MO mX2_countStanding 1 := ⟨(Gs_of (tb_3 (i := 154) rfl) rfl), (Gs_of (tb_1 (i := 3) (by decide +kernel)) rfl), ⟨by decide +kernel, by decide +kernel, by decide +kernel⟩, Nat.le_of_ble_eq_true rfl⟩
theorem vX2_countStanding : MV mX2_countStanding 1 := ⟨oX2_countStanding, (Gs_of (tb_3 (i := 153) (by decide +kernel)) rfl), Gs_sel (i := 41) (q := (yX2_countStanding, 9)) (by decide +kernel) rfl⟩
abbrev mX3_init : MN := (yX3_init, cX3_init, 1, none)
set_option maxRecDepth 20000 in
theorem oX3_init : MO mX3_init 0 := ⟨(Gs_of (tb_1 (i := 29) rfl) rfl), (Gs_of (tb_1 (i := 2) (by decide +kernel)) rfl), ⟨by decide +kernel, by decide +kernel, by decide +kernel⟩, Nat.le_of_ble_eq_true rfl⟩
abbrev mX3_clear : MN := (yX3_clear, cX3_clear, 1, none)
set_option maxRecDepth 20000 in
theorem oX3_clear : MO mX3_clear 0 := ⟨(Gs_of (tb_2 (i := 98) rfl) rfl), (Gs_of (tb_1 (i := 2) (by decide +kernel)) rfl), ⟨by decide +kernel, by decide +kernel, by decide +kernel⟩, Nat.le_of_ble_eq_true rfl⟩
theorem vX3_clear : MV mX3_clear 0 := ⟨oX3_clear, (Gs_of (tb_2 (i := 97) (by decide +kernel)) rfl), Gs_sel (i := 13) (q := (yX3_clear, 7)) (by decide +kernel) rfl⟩
abbrev mX3_setWide : MN := (yX3_setWide, cX3_setWide, 2, none)
set_option maxRecDepth 20000 in
theorem oX3_setWide : MO mX3_setWide 1 := ⟨(Gs_of (tb_2 (i := 177) rfl) rfl), (Gs_of (tb_1 (i := 2) (by decide +kernel)) rfl), ⟨by decide +kernel, by decide +kernel, by decide +kernel⟩, Nat.le_of_ble_eq_true rfl⟩
theorem vX3_setWide : MV mX3_setWide 1 := ⟨oX3_setWide, (Gs_of (tb_2 (i := 176) (by decide +kernel)) rfl), Gs_sel (i := 19) (q := (yX3_setWide, 7)) (by decide +kernel) rfl⟩
abbrev mX3_addCode : MN := (yX3_addCode, cX3_addCode, 2, none)
set_option maxRecDepth 20000 in
theorem oX3_addCode : MO mX3_addCode 1 := ⟨(Gs_of (tb_3 (i := 23) rfl) rfl), (Gs_of (tb_1 (i := 2) (by decide +kernel)) rfl), ⟨by decide +kernel, by decide +kernel, by decide +kernel⟩, Nat.le_of_ble_eq_true rfl⟩
theorem vX3_addCode : MV mX3_addCode 1 := ⟨oX3_addCode, (Gs_of (tb_3 (i := 22) (by decide +kernel)) rfl), Gs_sel (i := 24) (q := (yX3_addCode, 7)) (by decide +kernel) rfl⟩
abbrev mX3_testCode : MN := (yX3_testCode, cX3_testCode, 3, (some .int))
set_option maxRecDepth 20000 in
theorem oX3_testCode : MO mX3_testCode 3 := ⟨(Gs_of (tb_3 (i := 19) rfl) rfl), (Gs_of (tb_1 (i := 2) (by decide +kernel)) rfl), ⟨by decide +kernel, by decide +kernel, by decide +kernel⟩, Nat.le_of_ble_eq_true rfl⟩
theorem sX3_testCode : MS mX3_testCode 3 := ⟨oX3_testCode, (Gs_of (tb_3 (i := 18) (by decide +kernel)) rfl)⟩
abbrev mX3_addStep : MN := (yX3_addStep, cX3_addStep, 2, none)
set_option maxRecDepth 20000 in
theorem oX3_addStep : MO mX3_addStep 1 := ⟨(Gs_of (tb_3 (i := 27) rfl) rfl), (Gs_of (tb_1 (i := 2) (by decide +kernel)) rfl), ⟨by decide +kernel, by decide +kernel, by decide +kernel⟩, Nat.le_of_ble_eq_true rfl⟩
theorem vX3_addStep : MV mX3_addStep 1 := ⟨oX3_addStep, (Gs_of (tb_3 (i := 26) (by decide +kernel)) rfl), Gs_sel (i := 25) (q := (yX3_addStep, 7)) (by decide +kernel) rfl⟩
abbrev mX3_stopsAfter : MN := (yX3_stopsAfter, cX3_stopsAfter, 2, (some .boolean))
set_option maxRecDepth 20000 in
theorem oX3_stopsAfter : MO mX3_stopsAfter 1 := ⟨(Gs_of (tb_3 (i := 56) rfl) rfl), (Gs_of (tb_1 (i := 2) (by decide +kernel)) rfl), ⟨by decide +kernel, by decide +kernel, by decide +kernel⟩, Nat.le_of_ble_eq_true rfl⟩
theorem vX3_stopsAfter : MV mX3_stopsAfter 1 := ⟨oX3_stopsAfter, (Gs_of (tb_3 (i := 55) (by decide +kernel)) rfl), Gs_sel (i := 30) (q := (yX3_stopsAfter, 7)) (by decide +kernel) rfl⟩
abbrev mX3_stepFor : MN := (yX3_stepFor, cX3_stepFor, 6, (some .int))
set_option maxRecDepth 20000 in
theorem oX3_stepFor : MO mX3_stepFor 2 := ⟨(Gs_of (tb_2 (i := 29) rfl) rfl), (Gs_of (tb_1 (i := 2) (by decide +kernel)) rfl), ⟨by decide +kernel, by decide +kernel, by decide +kernel⟩, Nat.le_of_ble_eq_true rfl⟩
theorem vX3_stepFor : MV mX3_stepFor 2 := ⟨oX3_stepFor, (Gs_of (tb_2 (i := 28) (by decide +kernel)) rfl), Gs_sel (i := 4) (q := (yX3_stepFor, 7)) (by decide +kernel) rfl⟩
abbrev mX3_holds : MN := (yX3_holds, cX3_holds, 9, (some .boolean))
set_option maxRecDepth 20000 in
theorem oX3_holds : MO mX3_holds 4 := ⟨(Gs_of (tb_2 (i := 33) rfl) rfl), (Gs_of (tb_1 (i := 2) (by decide +kernel)) rfl), ⟨by decide +kernel, by decide +kernel, by decide +kernel⟩, Nat.le_of_ble_eq_true rfl⟩
theorem vX3_holds : MV mX3_holds 4 := ⟨oX3_holds, (Gs_of (tb_2 (i := 32) (by decide +kernel)) rfl), Gs_sel (i := 5) (q := (yX3_holds, 7)) (by decide +kernel) rfl⟩
abbrev mX3_passes : MN := (yX3_passes, cX3_passes, 6, (some .boolean))
set_option maxRecDepth 20000 in
theorem oX3_passes : MO mX3_passes 3 := ⟨(Gs_of (tb_2 (i := 37) rfl) rfl), (Gs_of (tb_1 (i := 2) (by decide +kernel)) rfl), ⟨by decide +kernel, by decide +kernel, by decide +kernel⟩, Nat.le_of_ble_eq_true rfl⟩
theorem sX3_passes : MS mX3_passes 3 := ⟨oX3_passes, (Gs_of (tb_2 (i := 36) (by decide +kernel)) rfl)⟩
abbrev mX4_init : MN := (yX4_init, cX4_init, 1, none)
set_option maxRecDepth 20000 in
theorem oX4_init : MO mX4_init 0 := ⟨(Gs_of (tb_1 (i := 144) rfl) rfl), (Gs_of (tb_1 (i := 5) (by decide +kernel)) rfl), ⟨by decide +kernel, by decide +kernel, by decide +kernel⟩, Nat.le_of_ble_eq_true rfl⟩
abbrev mX4_add : MN := (yX4_add, cX4_add, 2, none)
set_option maxRecDepth 20000 in
theorem oX4_add : MO mX4_add 1 := ⟨(Gs_of (tb_2 (i := 86) rfl) rfl), (Gs_of (tb_1 (i := 5) (by decide +kernel)) rfl), ⟨by decide +kernel, by decide +kernel, by decide +kernel⟩, Nat.le_of_ble_eq_true rfl⟩
theorem vX4_add : MV mX4_add 1 := ⟨oX4_add, (Gs_of (tb_2 (i := 85) (by decide +kernel)) rfl), Gs_sel (i := 11) (q := (yX4_add, 3)) (by decide +kernel) rfl⟩
abbrev mX4_readInto : MN := (yX4_readInto, cX4_readInto, 3, (some .boolean))
set_option maxRecDepth 20000 in
theorem oX4_readInto : MO mX4_readInto 1 := ⟨(Gs_of (tb_2 (i := 94) rfl) rfl), (Gs_of (tb_1 (i := 5) (by decide +kernel)) rfl), ⟨by decide +kernel, by decide +kernel, by decide +kernel⟩, Nat.le_of_ble_eq_true rfl⟩
theorem vX4_readInto : MV mX4_readInto 1 := ⟨oX4_readInto, (Gs_of (tb_2 (i := 93) (by decide +kernel)) rfl), Gs_sel (i := 12) (q := (yX4_readInto, 3)) (by decide +kernel) rfl⟩
abbrev mX4_readClause : MN := (yX4_readClause, cX4_readClause, 4, (some .boolean))
set_option maxRecDepth 20000 in
theorem oX4_readClause : MO mX4_readClause 1 := ⟨(Gs_of (tb_2 (i := 102) rfl) rfl), (Gs_of (tb_1 (i := 5) (by decide +kernel)) rfl), ⟨by decide +kernel, by decide +kernel, by decide +kernel⟩, Nat.le_of_ble_eq_true rfl⟩
theorem vX4_readClause : MV mX4_readClause 1 := ⟨oX4_readClause, (Gs_of (tb_2 (i := 101) (by decide +kernel)) rfl), Gs_sel (i := 14) (q := (yX4_readClause, 3)) (by decide +kernel) rfl⟩
abbrev mX4_wordOf : MN := (yX4_wordOf, cX4_wordOf, 1, (some (.object "java/lang/String")))
set_option maxRecDepth 20000 in
theorem oX4_wordOf : MO mX4_wordOf 1 := ⟨(Gs_of (tb_2 (i := 109) rfl) rfl), (Gs_of (tb_1 (i := 5) (by decide +kernel)) rfl), ⟨by decide +kernel, by decide +kernel, by decide +kernel⟩, Nat.le_of_ble_eq_true rfl⟩
theorem sX4_wordOf : MS mX4_wordOf 1 := ⟨oX4_wordOf, (Gs_of (tb_2 (i := 108) (by decide +kernel)) rfl)⟩
abbrev mX4_readAnyOf : MN := (yX4_readAnyOf, cX4_readAnyOf, 4, (some .boolean))
set_option maxRecDepth 20000 in
theorem oX4_readAnyOf : MO mX4_readAnyOf 2 := ⟨(Gs_of (tb_2 (i := 187) rfl) rfl), (Gs_of (tb_1 (i := 5) (by decide +kernel)) rfl), ⟨by decide +kernel, by decide +kernel, by decide +kernel⟩, Nat.le_of_ble_eq_true rfl⟩
theorem vX4_readAnyOf : MV mX4_readAnyOf 2 := ⟨oX4_readAnyOf, (Gs_of (tb_2 (i := 186) (by decide +kernel)) rfl), Gs_sel (i := 20) (q := (yX4_readAnyOf, 3)) (by decide +kernel) rfl⟩
abbrev mX4_readAllOf : MN := (yX4_readAllOf, cX4_readAllOf, 4, (some .boolean))
set_option maxRecDepth 20000 in
theorem oX4_readAllOf : MO mX4_readAllOf 2 := ⟨(Gs_of (tb_2 (i := 191) rfl) rfl), (Gs_of (tb_1 (i := 5) (by decide +kernel)) rfl), ⟨by decide +kernel, by decide +kernel, by decide +kernel⟩, Nat.le_of_ble_eq_true rfl⟩
theorem vX4_readAllOf : MV mX4_readAllOf 2 := ⟨oX4_readAllOf, (Gs_of (tb_2 (i := 190) (by decide +kernel)) rfl), Gs_sel (i := 21) (q := (yX4_readAllOf, 3)) (by decide +kernel) rfl⟩
abbrev mX4_readOne : MN := (yX4_readOne, cX4_readOne, 4, (some .boolean))
set_option maxRecDepth 20000 in
theorem oX4_readOne : MO mX4_readOne 2 := ⟨(Gs_of (tb_2 (i := 195) rfl) rfl), (Gs_of (tb_1 (i := 5) (by decide +kernel)) rfl), ⟨by decide +kernel, by decide +kernel, by decide +kernel⟩, Nat.le_of_ble_eq_true rfl⟩
theorem vX4_readOne : MV mX4_readOne 2 := ⟨oX4_readOne, (Gs_of (tb_2 (i := 194) (by decide +kernel)) rfl), Gs_sel (i := 22) (q := (yX4_readOne, 3)) (by decide +kernel) rfl⟩
abbrev mX4_readTest : MN := (yX4_readTest, cX4_readTest, 5, (some .boolean))
set_option maxRecDepth 20000 in
theorem oX4_readTest : MO mX4_readTest 1 := ⟨(Gs_of (tb_2 (i := 199) rfl) rfl), (Gs_of (tb_1 (i := 5) (by decide +kernel)) rfl), ⟨by decide +kernel, by decide +kernel, by decide +kernel⟩, Nat.le_of_ble_eq_true rfl⟩
theorem vX4_readTest : MV mX4_readTest 1 := ⟨oX4_readTest, (Gs_of (tb_2 (i := 198) (by decide +kernel)) rfl), Gs_sel (i := 23) (q := (yX4_readTest, 3)) (by decide +kernel) rfl⟩
abbrev mX4_readNumber : MN := (yX4_readNumber, cX4_readNumber, 4, (some .int))
set_option maxRecDepth 20000 in
theorem oX4_readNumber : MO mX4_readNumber 0 := ⟨(Gs_of (tb_2 (i := 173) rfl) rfl), (Gs_of (tb_1 (i := 5) (by decide +kernel)) rfl), ⟨by decide +kernel, by decide +kernel, by decide +kernel⟩, Nat.le_of_ble_eq_true rfl⟩
theorem vX4_readNumber : MV mX4_readNumber 0 := ⟨oX4_readNumber, (Gs_of (tb_2 (i := 172) (by decide +kernel)) rfl), Gs_sel (i := 18) (q := (yX4_readNumber, 3)) (by decide +kernel) rfl⟩
abbrev mX4_takesAll : MN := (yX4_takesAll, cX4_takesAll, 3, (some .boolean))
set_option maxRecDepth 20000 in
theorem oX4_takesAll : MO mX4_takesAll 1 := ⟨(Gs_of (tb_2 (i := 117) rfl) rfl), (Gs_of (tb_1 (i := 5) (by decide +kernel)) rfl), ⟨by decide +kernel, by decide +kernel, by decide +kernel⟩, Nat.le_of_ble_eq_true rfl⟩
theorem vX4_takesAll : MV mX4_takesAll 1 := ⟨oX4_takesAll, (Gs_of (tb_2 (i := 116) (by decide +kernel)) rfl), Gs_sel (i := 16) (q := (yX4_takesAll, 3)) (by decide +kernel) rfl⟩
abbrev mX4_takes : MN := (yX4_takes, cX4_takes, 2, (some .boolean))
set_option maxRecDepth 20000 in
theorem oX4_takes : MO mX4_takes 1 := ⟨(Gs_of (tb_2 (i := 169) rfl) rfl), (Gs_of (tb_1 (i := 5) (by decide +kernel)) rfl), ⟨by decide +kernel, by decide +kernel, by decide +kernel⟩, Nat.le_of_ble_eq_true rfl⟩
theorem vX4_takes : MV mX4_takes 1 := ⟨oX4_takes, (Gs_of (tb_2 (i := 168) (by decide +kernel)) rfl), Gs_sel (i := 17) (q := (yX4_takes, 3)) (by decide +kernel) rfl⟩
abbrev mX4_ahead : MN := (yX4_ahead, cX4_ahead, 1, (some .char))
set_option maxRecDepth 20000 in
theorem oX4_ahead : MO mX4_ahead 0 := ⟨(Gs_of (tb_2 (i := 106) rfl) rfl), (Gs_of (tb_1 (i := 5) (by decide +kernel)) rfl), ⟨by decide +kernel, by decide +kernel, by decide +kernel⟩, Nat.le_of_ble_eq_true rfl⟩
theorem vX4_ahead : MV mX4_ahead 0 := ⟨oX4_ahead, (Gs_of (tb_2 (i := 105) (by decide +kernel)) rfl), Gs_sel (i := 15) (q := (yX4_ahead, 3)) (by decide +kernel) rfl⟩
abbrev mX5_init : MN := (yX5_init, cX5_init, 1, none)
set_option maxRecDepth 20000 in
theorem oX5_init : MO mX5_init 0 := ⟨(Gs_of (tb_1 (i := 188) rfl) rfl), (Gs_of (tb_1 (i := 7) (by decide +kernel)) rfl), ⟨by decide +kernel, by decide +kernel, by decide +kernel⟩, Nat.le_of_ble_eq_true rfl⟩
abbrev mX5_become : MN := (yX5_become, cX5_become, 3, none)
set_option maxRecDepth 20000 in
theorem oX5_become : MO mX5_become 2 := ⟨(Gs_of (tb_4 (i := 49) rfl) rfl), (Gs_of (tb_1 (i := 7) (by decide +kernel)) rfl), ⟨by decide +kernel, by decide +kernel, by decide +kernel⟩, Nat.le_of_ble_eq_true rfl⟩
theorem vX5_become : MV mX5_become 2 := ⟨oX5_become, (Gs_of (tb_4 (i := 48) (by decide +kernel)) rfl), Gs_sel (i := 53) (q := (yX5_become, 3)) (by decide +kernel) rfl⟩
abbrev mX5_fitted : MN := (yX5_fitted, cX5_fitted, 3, (some .long))
set_option maxRecDepth 20000 in
theorem oX5_fitted : MO mX5_fitted 1 := ⟨(Gs_of (tb_4 (i := 62) rfl) rfl), (Gs_of (tb_1 (i := 7) (by decide +kernel)) rfl), ⟨by decide +kernel, by decide +kernel, by decide +kernel⟩, Nat.le_of_ble_eq_true rfl⟩
theorem vX5_fitted : MV mX5_fitted 1 := ⟨oX5_fitted, (Gs_of (tb_4 (i := 61) (by decide +kernel)) rfl), Gs_sel (i := 54) (q := (yX5_fitted, 3)) (by decide +kernel) rfl⟩
abbrev mX5_hasStretch : MN := (yX5_hasStretch, cX5_hasStretch, 3, (some .boolean))
set_option maxRecDepth 20000 in
theorem oX5_hasStretch : MO mX5_hasStretch 2 := ⟨(Gs_of (tb_4 (i := 74) rfl) rfl), (Gs_of (tb_1 (i := 7) (by decide +kernel)) rfl), ⟨by decide +kernel, by decide +kernel, by decide +kernel⟩, Nat.le_of_ble_eq_true rfl⟩
theorem vX5_hasStretch : MV mX5_hasStretch 2 := ⟨oX5_hasStretch, (Gs_of (tb_4 (i := 73) (by decide +kernel)) rfl), Gs_sel (i := 55) (q := (yX5_hasStretch, 3)) (by decide +kernel) rfl⟩
abbrev mX6_init : MN := (yX6_init, cX6_init, 3, none)
set_option maxRecDepth 20000 in
theorem oX6_init : MO mX6_init 0 := ⟨(Gs_of (tb_1 (i := 21) rfl) rfl), (Gs_of (tb_1 (i := 1) (by decide +kernel)) rfl), ⟨by decide +kernel, by decide +kernel, by decide +kernel⟩, Nat.le_of_ble_eq_true rfl⟩
abbrev mX6_dancer : MN := (yX6_dancer, cX6_dancer, 4, (some .int))
set_option maxRecDepth 20000 in
theorem oX6_dancer : MO mX6_dancer 3 := ⟨(Gs_of (tb_2 (i := 4) rfl) rfl), (Gs_of (tb_1 (i := 1) (by decide +kernel)) rfl), ⟨by decide +kernel, by decide +kernel, by decide +kernel⟩, Nat.le_of_ble_eq_true rfl⟩
theorem vX6_dancer : MV mX6_dancer 3 := ⟨oX6_dancer, (Gs_of (tb_2 (i := 2) (by decide +kernel)) rfl), (Gs_of (tb_2 (i := 3) (by decide +kernel)) rfl)⟩
abbrev mX6_of : MN := (yX6_of, cX6_of, 3, (some .int))
set_option maxRecDepth 20000 in
theorem oX6_of : MO mX6_of 2 := ⟨(Gs_of (tb_2 (i := 24) rfl) rfl), (Gs_of (tb_1 (i := 1) (by decide +kernel)) rfl), ⟨by decide +kernel, by decide +kernel, by decide +kernel⟩, Nat.le_of_ble_eq_true rfl⟩
theorem vX6_of : MV mX6_of 2 := ⟨oX6_of, (Gs_of (tb_2 (i := 22) (by decide +kernel)) rfl), (Gs_of (tb_2 (i := 23) (by decide +kernel)) rfl)⟩
abbrev mX6_after : MN := (yX6_after, cX6_after, 4, (some .int))
set_option maxRecDepth 20000 in
theorem oX6_after : MO mX6_after 2 := ⟨(Gs_of (tb_2 (i := 65) rfl) rfl), (Gs_of (tb_1 (i := 1) (by decide +kernel)) rfl), ⟨by decide +kernel, by decide +kernel, by decide +kernel⟩, Nat.le_of_ble_eq_true rfl⟩
theorem vX6_after : MV mX6_after 2 := ⟨oX6_after, (Gs_of (tb_2 (i := 63) (by decide +kernel)) rfl), (Gs_of (tb_2 (i := 64) (by decide +kernel)) rfl)⟩
abbrev mX6_begin : MN := (yX6_begin, cX6_begin, 4, (some .int))
set_option maxRecDepth 20000 in
theorem oX6_begin : MO mX6_begin 2 := ⟨(Gs_of (tb_2 (i := 73) rfl) rfl), (Gs_of (tb_1 (i := 1) (by decide +kernel)) rfl), ⟨by decide +kernel, by decide +kernel, by decide +kernel⟩, Nat.le_of_ble_eq_true rfl⟩
theorem vX6_begin : MV mX6_begin 2 := ⟨oX6_begin, (Gs_of (tb_2 (i := 71) (by decide +kernel)) rfl), (Gs_of (tb_2 (i := 72) (by decide +kernel)) rfl)⟩
abbrev mX6_row : MN := (yX6_row, cX6_row, 6, (some .int))
set_option maxRecDepth 20000 in
theorem oX6_row : MO mX6_row 3 := ⟨(Gs_of (tb_2 (i := 78) rfl) rfl), (Gs_of (tb_1 (i := 1) (by decide +kernel)) rfl), ⟨by decide +kernel, by decide +kernel, by decide +kernel⟩, Nat.le_of_ble_eq_true rfl⟩
theorem vX6_row : MV mX6_row 3 := ⟨oX6_row, (Gs_of (tb_2 (i := 76) (by decide +kernel)) rfl), (Gs_of (tb_2 (i := 77) (by decide +kernel)) rfl)⟩
abbrev mX6_feed : MN := (yX6_feed, cX6_feed, 2, (some .int))
set_option maxRecDepth 20000 in
theorem oX6_feed : MO mX6_feed 1 := ⟨(Gs_of (tb_2 (i := 82) rfl) rfl), (Gs_of (tb_1 (i := 1) (by decide +kernel)) rfl), ⟨by decide +kernel, by decide +kernel, by decide +kernel⟩, Nat.le_of_ble_eq_true rfl⟩
theorem vX6_feed : MV mX6_feed 1 := ⟨oX6_feed, (Gs_of (tb_2 (i := 80) (by decide +kernel)) rfl), (Gs_of (tb_2 (i := 81) (by decide +kernel)) rfl)⟩
abbrev mX6_hall : MN := (yX6_hall, cX6_hall, 3, (some .int))
set_option maxRecDepth 20000 in
theorem oX6_hall : MO mX6_hall 0 := ⟨(Gs_of (tb_2 (i := 90) rfl) rfl), (Gs_of (tb_1 (i := 1) (by decide +kernel)) rfl), ⟨by decide +kernel, by decide +kernel, by decide +kernel⟩, Nat.le_of_ble_eq_true rfl⟩
theorem vX6_hall : MV mX6_hall 0 := ⟨oX6_hall, (Gs_of (tb_2 (i := 88) (by decide +kernel)) rfl), (Gs_of (tb_2 (i := 89) (by decide +kernel)) rfl)⟩
abbrev mX6_told : MN := (yX6_told, cX6_told, 2, (some .int))
set_option maxRecDepth 20000 in
theorem oX6_told : MO mX6_told 1 := ⟨(Gs_of (tb_3 (i := 36) rfl) rfl), (Gs_of (tb_1 (i := 1) (by decide +kernel)) rfl), ⟨by decide +kernel, by decide +kernel, by decide +kernel⟩, Nat.le_of_ble_eq_true rfl⟩
theorem vX6_told : MV mX6_told 1 := ⟨oX6_told, (Gs_of (tb_3 (i := 34) (by decide +kernel)) rfl), (Gs_of (tb_3 (i := 35) (by decide +kernel)) rfl)⟩
abbrev mX6_pass : MN := (yX6_pass, cX6_pass, 2, (some .int))
set_option maxRecDepth 20000 in
theorem oX6_pass : MO mX6_pass 1 := ⟨(Gs_of (tb_3 (i := 44) rfl) rfl), (Gs_of (tb_1 (i := 1) (by decide +kernel)) rfl), ⟨by decide +kernel, by decide +kernel, by decide +kernel⟩, Nat.le_of_ble_eq_true rfl⟩
theorem vX6_pass : MV mX6_pass 1 := ⟨oX6_pass, (Gs_of (tb_3 (i := 42) (by decide +kernel)) rfl), (Gs_of (tb_3 (i := 43) (by decide +kernel)) rfl)⟩
abbrev mX6_on : MN := (yX6_on, cX6_on, 3, (some .int))
set_option maxRecDepth 20000 in
theorem oX6_on : MO mX6_on 2 := ⟨(Gs_of (tb_3 (i := 64) rfl) rfl), (Gs_of (tb_1 (i := 1) (by decide +kernel)) rfl), ⟨by decide +kernel, by decide +kernel, by decide +kernel⟩, Nat.le_of_ble_eq_true rfl⟩
theorem vX6_on : MV mX6_on 2 := ⟨oX6_on, (Gs_of (tb_3 (i := 62) (by decide +kernel)) rfl), (Gs_of (tb_3 (i := 63) (by decide +kernel)) rfl)⟩
abbrev mX6_again : MN := (yX6_again, cX6_again, 2, (some .int))
set_option maxRecDepth 20000 in
theorem oX6_again : MO mX6_again 0 := ⟨(Gs_of (tb_3 (i := 80) rfl) rfl), (Gs_of (tb_1 (i := 1) (by decide +kernel)) rfl), ⟨by decide +kernel, by decide +kernel, by decide +kernel⟩, Nat.le_of_ble_eq_true rfl⟩
theorem vX6_again : MV mX6_again 0 := ⟨oX6_again, (Gs_of (tb_3 (i := 78) (by decide +kernel)) rfl), (Gs_of (tb_3 (i := 79) (by decide +kernel)) rfl)⟩
abbrev mX6_together : MN := (yX6_together, cX6_together, 1, (some .int))
set_option maxRecDepth 20000 in
theorem oX6_together : MO mX6_together 0 := ⟨(Gs_of (tb_3 (i := 89) rfl) rfl), (Gs_of (tb_1 (i := 1) (by decide +kernel)) rfl), ⟨by decide +kernel, by decide +kernel, by decide +kernel⟩, Nat.le_of_ble_eq_true rfl⟩
theorem vX6_together : MV mX6_together 0 := ⟨oX6_together, (Gs_of (tb_3 (i := 87) (by decide +kernel)) rfl), (Gs_of (tb_3 (i := 88) (by decide +kernel)) rfl)⟩
abbrev mX6_still : MN := (yX6_still, cX6_still, 2, (some .int))
set_option maxRecDepth 20000 in
theorem oX6_still : MO mX6_still 0 := ⟨(Gs_of (tb_3 (i := 101) rfl) rfl), (Gs_of (tb_1 (i := 1) (by decide +kernel)) rfl), ⟨by decide +kernel, by decide +kernel, by decide +kernel⟩, Nat.le_of_ble_eq_true rfl⟩
theorem vX6_still : MV mX6_still 0 := ⟨oX6_still, (Gs_of (tb_3 (i := 99) (by decide +kernel)) rfl), (Gs_of (tb_3 (i := 100) (by decide +kernel)) rfl)⟩
abbrev mX6_meet : MN := (yX6_meet, cX6_meet, 4, (some .int))
set_option maxRecDepth 20000 in
theorem oX6_meet : MO mX6_meet 2 := ⟨(Gs_of (tb_3 (i := 109) rfl) rfl), (Gs_of (tb_1 (i := 1) (by decide +kernel)) rfl), ⟨by decide +kernel, by decide +kernel, by decide +kernel⟩, Nat.le_of_ble_eq_true rfl⟩
theorem vX6_meet : MV mX6_meet 2 := ⟨oX6_meet, (Gs_of (tb_3 (i := 107) (by decide +kernel)) rfl), (Gs_of (tb_3 (i := 108) (by decide +kernel)) rfl)⟩
abbrev mX6_far : MN := (yX6_far, cX6_far, 6, (some .int))
set_option maxRecDepth 20000 in
theorem oX6_far : MO mX6_far 3 := ⟨(Gs_of (tb_3 (i := 113) rfl) rfl), (Gs_of (tb_1 (i := 1) (by decide +kernel)) rfl), ⟨by decide +kernel, by decide +kernel, by decide +kernel⟩, Nat.le_of_ble_eq_true rfl⟩
theorem vX6_far : MV mX6_far 3 := ⟨oX6_far, (Gs_of (tb_3 (i := 111) (by decide +kernel)) rfl), (Gs_of (tb_3 (i := 112) (by decide +kernel)) rfl)⟩
abbrev mX6_whom : MN := (yX6_whom, cX6_whom, 6, (some .int))
set_option maxRecDepth 20000 in
theorem oX6_whom : MO mX6_whom 1 := ⟨(Gs_of (tb_3 (i := 123) rfl) rfl), (Gs_of (tb_1 (i := 1) (by decide +kernel)) rfl), ⟨by decide +kernel, by decide +kernel, by decide +kernel⟩, Nat.le_of_ble_eq_true rfl⟩
theorem vX6_whom : MV mX6_whom 1 := ⟨oX6_whom, (Gs_of (tb_3 (i := 121) (by decide +kernel)) rfl), (Gs_of (tb_3 (i := 122) (by decide +kernel)) rfl)⟩
abbrev mX6_alone : MN := (yX6_alone, cX6_alone, 8, (some .int))
set_option maxRecDepth 20000 in
theorem oX6_alone : MO mX6_alone 3 := ⟨(Gs_of (tb_3 (i := 127) rfl) rfl), (Gs_of (tb_1 (i := 1) (by decide +kernel)) rfl), ⟨by decide +kernel, by decide +kernel, by decide +kernel⟩, Nat.le_of_ble_eq_true rfl⟩
theorem vX6_alone : MV mX6_alone 3 := ⟨oX6_alone, (Gs_of (tb_3 (i := 125) (by decide +kernel)) rfl), (Gs_of (tb_3 (i := 126) (by decide +kernel)) rfl)⟩
abbrev mX6_stop : MN := (yX6_stop, cX6_stop, 6, (some .int))
set_option maxRecDepth 20000 in
theorem oX6_stop : MO mX6_stop 0 := ⟨(Gs_of (tb_3 (i := 139) rfl) rfl), (Gs_of (tb_1 (i := 1) (by decide +kernel)) rfl), ⟨by decide +kernel, by decide +kernel, by decide +kernel⟩, Nat.le_of_ble_eq_true rfl⟩
theorem vX6_stop : MV mX6_stop 0 := ⟨oX6_stop, (Gs_of (tb_3 (i := 137) (by decide +kernel)) rfl), (Gs_of (tb_3 (i := 138) (by decide +kernel)) rfl)⟩
abbrev mX6_begins : MN := (yX6_begins, cX6_begins, 7, (some .int))
set_option maxRecDepth 20000 in
theorem oX6_begins : MO mX6_begins 3 := ⟨(Gs_of (tb_3 (i := 143) rfl) rfl), (Gs_of (tb_1 (i := 1) (by decide +kernel)) rfl), ⟨by decide +kernel, by decide +kernel, by decide +kernel⟩, Nat.le_of_ble_eq_true rfl⟩
theorem vX6_begins : MV mX6_begins 3 := ⟨oX6_begins, (Gs_of (tb_3 (i := 141) (by decide +kernel)) rfl), (Gs_of (tb_3 (i := 142) (by decide +kernel)) rfl)⟩
abbrev mX6_crowd : MN := (yX6_crowd, cX6_crowd, 4, (some .int))
set_option maxRecDepth 20000 in
theorem oX6_crowd : MO mX6_crowd 1 := ⟨(Gs_of (tb_3 (i := 147) rfl) rfl), (Gs_of (tb_1 (i := 1) (by decide +kernel)) rfl), ⟨by decide +kernel, by decide +kernel, by decide +kernel⟩, Nat.le_of_ble_eq_true rfl⟩
theorem vX6_crowd : MV mX6_crowd 1 := ⟨oX6_crowd, (Gs_of (tb_3 (i := 145) (by decide +kernel)) rfl), (Gs_of (tb_3 (i := 146) (by decide +kernel)) rfl)⟩
abbrev mX6_see : MN := (yX6_see, cX6_see, 4, (some .int))
set_option maxRecDepth 20000 in
theorem oX6_see : MO mX6_see 3 := ⟨(Gs_of (tb_3 (i := 158) rfl) rfl), (Gs_of (tb_1 (i := 1) (by decide +kernel)) rfl), ⟨by decide +kernel, by decide +kernel, by decide +kernel⟩, Nat.le_of_ble_eq_true rfl⟩
theorem vX6_see : MV mX6_see 3 := ⟨oX6_see, (Gs_of (tb_3 (i := 156) (by decide +kernel)) rfl), (Gs_of (tb_3 (i := 157) (by decide +kernel)) rfl)⟩
abbrev mX6_can : MN := (yX6_can, cX6_can, 4, (some .int))
set_option maxRecDepth 20000 in
theorem oX6_can : MO mX6_can 1 := ⟨(Gs_of (tb_3 (i := 166) rfl) rfl), (Gs_of (tb_1 (i := 1) (by decide +kernel)) rfl), ⟨by decide +kernel, by decide +kernel, by decide +kernel⟩, Nat.le_of_ble_eq_true rfl⟩
theorem vX6_can : MV mX6_can 1 := ⟨oX6_can, (Gs_of (tb_3 (i := 164) (by decide +kernel)) rfl), (Gs_of (tb_3 (i := 165) (by decide +kernel)) rfl)⟩
abbrev mX6_odds : MN := (yX6_odds, cX6_odds, 5, (some .long))
set_option maxRecDepth 20000 in
theorem oX6_odds : MO mX6_odds 2 := ⟨(Gs_of (tb_3 (i := 176) rfl) rfl), (Gs_of (tb_1 (i := 1) (by decide +kernel)) rfl), ⟨by decide +kernel, by decide +kernel, by decide +kernel⟩, Nat.le_of_ble_eq_true rfl⟩
theorem vX6_odds : MV mX6_odds 2 := ⟨oX6_odds, (Gs_of (tb_3 (i := 174) (by decide +kernel)) rfl), (Gs_of (tb_3 (i := 175) (by decide +kernel)) rfl)⟩
abbrev mX6_mean : MN := (yX6_mean, cX6_mean, 7, (some .long))
set_option maxRecDepth 20000 in
theorem oX6_mean : MO mX6_mean 2 := ⟨(Gs_of (tb_3 (i := 184) rfl) rfl), (Gs_of (tb_1 (i := 1) (by decide +kernel)) rfl), ⟨by decide +kernel, by decide +kernel, by decide +kernel⟩, Nat.le_of_ble_eq_true rfl⟩
theorem vX6_mean : MV mX6_mean 2 := ⟨oX6_mean, (Gs_of (tb_3 (i := 182) (by decide +kernel)) rfl), (Gs_of (tb_3 (i := 183) (by decide +kernel)) rfl)⟩
abbrev mX6_dance : MN := (yX6_dance, cX6_dance, 2, (some .int))
set_option maxRecDepth 20000 in
theorem oX6_dance : MO mX6_dance 1 := ⟨(Gs_of (tb_3 (i := 188) rfl) rfl), (Gs_of (tb_1 (i := 1) (by decide +kernel)) rfl), ⟨by decide +kernel, by decide +kernel, by decide +kernel⟩, Nat.le_of_ble_eq_true rfl⟩
theorem vX6_dance : MV mX6_dance 1 := ⟨oX6_dance, (Gs_of (tb_3 (i := 186) (by decide +kernel)) rfl), (Gs_of (tb_3 (i := 187) (by decide +kernel)) rfl)⟩
abbrev mX6_danced : MN := (yX6_danced, cX6_danced, 2, (some .int))
set_option maxRecDepth 20000 in
theorem oX6_danced : MO mX6_danced 1 := ⟨(Gs_of (tb_3 (i := 196) rfl) rfl), (Gs_of (tb_1 (i := 1) (by decide +kernel)) rfl), ⟨by decide +kernel, by decide +kernel, by decide +kernel⟩, Nat.le_of_ble_eq_true rfl⟩
theorem vX6_danced : MV mX6_danced 1 := ⟨oX6_danced, (Gs_of (tb_3 (i := 194) (by decide +kernel)) rfl), (Gs_of (tb_3 (i := 195) (by decide +kernel)) rfl)⟩
abbrev mX6_book : MN := (yX6_book, cX6_book, 3, (some .int))
set_option maxRecDepth 20000 in
theorem oX6_book : MO mX6_book 2 := ⟨(Gs_of (tb_3 (i := 208) rfl) rfl), (Gs_of (tb_1 (i := 1) (by decide +kernel)) rfl), ⟨by decide +kernel, by decide +kernel, by decide +kernel⟩, Nat.le_of_ble_eq_true rfl⟩
theorem vX6_book : MV mX6_book 2 := ⟨oX6_book, (Gs_of (tb_3 (i := 206) (by decide +kernel)) rfl), (Gs_of (tb_3 (i := 207) (by decide +kernel)) rfl)⟩
abbrev mX6_looked : MN := (yX6_looked, cX6_looked, 1, (some .int))
set_option maxRecDepth 20000 in
theorem oX6_looked : MO mX6_looked 0 := ⟨(Gs_of (tb_3 (i := 216) rfl) rfl), (Gs_of (tb_1 (i := 1) (by decide +kernel)) rfl), ⟨by decide +kernel, by decide +kernel, by decide +kernel⟩, Nat.le_of_ble_eq_true rfl⟩
theorem vX6_looked : MV mX6_looked 0 := ⟨oX6_looked, (Gs_of (tb_3 (i := 214) (by decide +kernel)) rfl), (Gs_of (tb_3 (i := 215) (by decide +kernel)) rfl)⟩
abbrev mX6_judge : MN := (yX6_judge, cX6_judge, 8, (some .int))
set_option maxRecDepth 20000 in
theorem oX6_judge : MO mX6_judge 2 := ⟨(Gs_of (tb_3 (i := 224) rfl) rfl), (Gs_of (tb_1 (i := 1) (by decide +kernel)) rfl), ⟨by decide +kernel, by decide +kernel, by decide +kernel⟩, Nat.le_of_ble_eq_true rfl⟩
theorem vX6_judge : MV mX6_judge 2 := ⟨oX6_judge, (Gs_of (tb_3 (i := 222) (by decide +kernel)) rfl), (Gs_of (tb_3 (i := 223) (by decide +kernel)) rfl)⟩
abbrev mX6_image : MN := (yX6_image, cX6_image, 1, (some .int))
set_option maxRecDepth 20000 in
theorem oX6_image : MO mX6_image 0 := ⟨(Gs_of (tb_3 (i := 231) rfl) rfl), (Gs_of (tb_1 (i := 1) (by decide +kernel)) rfl), ⟨by decide +kernel, by decide +kernel, by decide +kernel⟩, Nat.le_of_ble_eq_true rfl⟩
theorem vX6_image : MV mX6_image 0 := ⟨oX6_image, (Gs_of (tb_3 (i := 229) (by decide +kernel)) rfl), (Gs_of (tb_3 (i := 230) (by decide +kernel)) rfl)⟩
abbrev mX6_undo : MN := (yX6_undo, cX6_undo, 1, (some .int))
set_option maxRecDepth 20000 in
theorem oX6_undo : MO mX6_undo 0 := ⟨(Gs_of (tb_4 (i := 0) rfl) rfl), (Gs_of (tb_1 (i := 1) (by decide +kernel)) rfl), ⟨by decide +kernel, by decide +kernel, by decide +kernel⟩, Nat.le_of_ble_eq_true rfl⟩
theorem vX6_undo : MV mX6_undo 0 := ⟨oX6_undo, (Gs_of (tb_3 (i := 238) (by decide +kernel)) rfl), (Gs_of (tb_3 (i := 239) (by decide +kernel)) rfl)⟩
abbrev mX6_act : MN := (yX6_act, cX6_act, 4, (some .int))
set_option maxRecDepth 20000 in
theorem oX6_act : MO mX6_act 3 := ⟨(Gs_of (tb_4 (i := 4) rfl) rfl), (Gs_of (tb_1 (i := 1) (by decide +kernel)) rfl), ⟨by decide +kernel, by decide +kernel, by decide +kernel⟩, Nat.le_of_ble_eq_true rfl⟩
theorem vX6_act : MV mX6_act 3 := ⟨oX6_act, (Gs_of (tb_4 (i := 2) (by decide +kernel)) rfl), (Gs_of (tb_4 (i := 3) (by decide +kernel)) rfl)⟩
abbrev mX6_trace : MN := (yX6_trace, cX6_trace, 2, (some .int))
set_option maxRecDepth 20000 in
theorem oX6_trace : MO mX6_trace 1 := ⟨(Gs_of (tb_4 (i := 32) rfl) rfl), (Gs_of (tb_1 (i := 1) (by decide +kernel)) rfl), ⟨by decide +kernel, by decide +kernel, by decide +kernel⟩, Nat.le_of_ble_eq_true rfl⟩
theorem vX6_trace : MV mX6_trace 1 := ⟨oX6_trace, (Gs_of (tb_4 (i := 30) (by decide +kernel)) rfl), (Gs_of (tb_4 (i := 31) (by decide +kernel)) rfl)⟩
abbrev mX6_taken : MN := (yX6_taken, cX6_taken, 6, (some .int))
set_option maxRecDepth 20000 in
theorem oX6_taken : MO mX6_taken 2 := ⟨(Gs_of (tb_4 (i := 36) rfl) rfl), (Gs_of (tb_1 (i := 1) (by decide +kernel)) rfl), ⟨by decide +kernel, by decide +kernel, by decide +kernel⟩, Nat.le_of_ble_eq_true rfl⟩
theorem vX6_taken : MV mX6_taken 2 := ⟨oX6_taken, (Gs_of (tb_4 (i := 34) (by decide +kernel)) rfl), (Gs_of (tb_4 (i := 35) (by decide +kernel)) rfl)⟩
abbrev mX6_count : MN := (yX6_count, cX6_count, 2, (some .int))
set_option maxRecDepth 20000 in
theorem oX6_count : MO mX6_count 1 := ⟨(Gs_of (tb_4 (i := 41) rfl) rfl), (Gs_of (tb_1 (i := 1) (by decide +kernel)) rfl), ⟨by decide +kernel, by decide +kernel, by decide +kernel⟩, Nat.le_of_ble_eq_true rfl⟩
theorem vX6_count : MV mX6_count 1 := ⟨oX6_count, (Gs_of (tb_4 (i := 39) (by decide +kernel)) rfl), (Gs_of (tb_4 (i := 40) (by decide +kernel)) rfl)⟩
abbrev mX6_tape : MN := (yX6_tape, cX6_tape, 4, (some .int))
set_option maxRecDepth 20000 in
theorem oX6_tape : MO mX6_tape 3 := ⟨(Gs_of (tb_4 (i := 45) rfl) rfl), (Gs_of (tb_1 (i := 1) (by decide +kernel)) rfl), ⟨by decide +kernel, by decide +kernel, by decide +kernel⟩, Nat.le_of_ble_eq_true rfl⟩
theorem vX6_tape : MV mX6_tape 3 := ⟨oX6_tape, (Gs_of (tb_4 (i := 43) (by decide +kernel)) rfl), (Gs_of (tb_4 (i := 44) (by decide +kernel)) rfl)⟩
abbrev mX6_item : MN := (yX6_item, cX6_item, 6, (some .int))
set_option maxRecDepth 20000 in
theorem oX6_item : MO mX6_item 3 := ⟨(Gs_of (tb_4 (i := 58) rfl) rfl), (Gs_of (tb_1 (i := 1) (by decide +kernel)) rfl), ⟨by decide +kernel, by decide +kernel, by decide +kernel⟩, Nat.le_of_ble_eq_true rfl⟩
theorem vX6_item : MV mX6_item 3 := ⟨oX6_item, (Gs_of (tb_4 (i := 56) (by decide +kernel)) rfl), (Gs_of (tb_4 (i := 57) (by decide +kernel)) rfl)⟩
abbrev mX6_read : MN := (yX6_read, cX6_read, 4, (some .long))
set_option maxRecDepth 20000 in
theorem oX6_read : MO mX6_read 2 := ⟨(Gs_of (tb_4 (i := 66) rfl) rfl), (Gs_of (tb_1 (i := 1) (by decide +kernel)) rfl), ⟨by decide +kernel, by decide +kernel, by decide +kernel⟩, Nat.le_of_ble_eq_true rfl⟩
theorem vX6_read : MV mX6_read 2 := ⟨oX6_read, (Gs_of (tb_4 (i := 64) (by decide +kernel)) rfl), (Gs_of (tb_4 (i := 65) (by decide +kernel)) rfl)⟩
abbrev mX6_shift : MN := (yX6_shift, cX6_shift, 8, (some .int))
set_option maxRecDepth 20000 in
theorem oX6_shift : MO mX6_shift 5 := ⟨(Gs_of (tb_4 (i := 70) rfl) rfl), (Gs_of (tb_1 (i := 1) (by decide +kernel)) rfl), ⟨by decide +kernel, by decide +kernel, by decide +kernel⟩, Nat.le_of_ble_eq_true rfl⟩
theorem vX6_shift : MV mX6_shift 5 := ⟨oX6_shift, (Gs_of (tb_4 (i := 68) (by decide +kernel)) rfl), (Gs_of (tb_4 (i := 69) (by decide +kernel)) rfl)⟩
abbrev mX6_asksForPlaces : MN := (yX6_asksForPlaces, cX6_asksForPlaces, 2, (some .boolean))
set_option maxRecDepth 20000 in
theorem oX6_asksForPlaces : MO mX6_asksForPlaces 1 := ⟨(Gs_of (tb_3 (i := 68) rfl) rfl), (Gs_of (tb_1 (i := 1) (by decide +kernel)) rfl), ⟨by decide +kernel, by decide +kernel, by decide +kernel⟩, Nat.le_of_ble_eq_true rfl⟩
theorem vX6_asksForPlaces : MV mX6_asksForPlaces 1 := ⟨oX6_asksForPlaces, (Gs_of (tb_3 (i := 67) (by decide +kernel)) rfl), Gs_sel (i := 31) (q := (yX6_asksForPlaces, 12)) (by decide +kernel) rfl⟩
abbrev mX6_placesAsked : MN := (yX6_placesAsked, cX6_placesAsked, 2, (some .int))
set_option maxRecDepth 20000 in
theorem oX6_placesAsked : MO mX6_placesAsked 1 := ⟨(Gs_of (tb_3 (i := 76) rfl) rfl), (Gs_of (tb_1 (i := 1) (by decide +kernel)) rfl), ⟨by decide +kernel, by decide +kernel, by decide +kernel⟩, Nat.le_of_ble_eq_true rfl⟩
theorem vX6_placesAsked : MV mX6_placesAsked 1 := ⟨oX6_placesAsked, (Gs_of (tb_3 (i := 75) (by decide +kernel)) rfl), Gs_sel (i := 33) (q := (yX6_placesAsked, 12)) (by decide +kernel) rfl⟩
abbrev mX6_isTape : MN := (yX6_isTape, cX6_isTape, 1, (some .boolean))
set_option maxRecDepth 20000 in
theorem oX6_isTape : MO mX6_isTape 1 := ⟨(Gs_of (tb_3 (i := 227) rfl) rfl), (Gs_of (tb_1 (i := 1) (by decide +kernel)) rfl), ⟨by decide +kernel, by decide +kernel, by decide +kernel⟩, Nat.le_of_ble_eq_true rfl⟩
theorem sX6_isTape : MS mX6_isTape 1 := ⟨oX6_isTape, (Gs_of (tb_3 (i := 226) (by decide +kernel)) rfl)⟩
abbrev mX6_partOfFraction : MN := (yX6_partOfFraction, cX6_partOfFraction, 4, (some .long))
set_option maxRecDepth 20000 in
theorem oX6_partOfFraction : MO mX6_partOfFraction 3 := ⟨(Gs_of (tb_3 (i := 180) rfl) rfl), (Gs_of (tb_1 (i := 1) (by decide +kernel)) rfl), ⟨by decide +kernel, by decide +kernel, by decide +kernel⟩, Nat.le_of_ble_eq_true rfl⟩
theorem sX6_partOfFraction : MS mX6_partOfFraction 3 := ⟨oX6_partOfFraction, (Gs_of (tb_3 (i := 179) (by decide +kernel)) rfl)⟩
abbrev mX6_modulo : MN := (yX6_modulo, cX6_modulo, 2, (some .int))
set_option maxRecDepth 20000 in
theorem oX6_modulo : MO mX6_modulo 2 := ⟨(Gs_of (tb_2 (i := 57) rfl) rfl), (Gs_of (tb_1 (i := 1) (by decide +kernel)) rfl), ⟨by decide +kernel, by decide +kernel, by decide +kernel⟩, Nat.le_of_ble_eq_true rfl⟩
theorem sX6_modulo : MS mX6_modulo 2 := ⟨oX6_modulo, (Gs_of (tb_2 (i := 56) (by decide +kernel)) rfl)⟩
abbrev mX7_init : MN := (yX7_init, cX7_init, 1, none)
set_option maxRecDepth 20000 in
theorem oX7_init : MO mX7_init 0 := ⟨(Gs_of (tb_4 (i := 80) rfl) rfl), (Gs_of (tb_1 (i := 8) (by decide +kernel)) rfl), ⟨by decide +kernel, by decide +kernel, by decide +kernel⟩, Nat.le_of_ble_eq_true rfl⟩
abbrev mX7_in : MN := (yX7_in, cX7_in, 4, (some .boolean))
set_option maxRecDepth 20000 in
theorem oX7_in : MO mX7_in 3 := ⟨(Gs_of (tb_5 (i := 43) rfl) rfl), (Gs_of (tb_1 (i := 8) (by decide +kernel)) rfl), ⟨by decide +kernel, by decide +kernel, by decide +kernel⟩, Nat.le_of_ble_eq_true rfl⟩
theorem vX7_in : MV mX7_in 3 := ⟨oX7_in, (Gs_of (tb_5 (i := 42) (by decide +kernel)) rfl), Gs_sel (i := 56) (q := (yX7_in, 64)) (by decide +kernel) rfl⟩
abbrev mX7_isDancer : MN := (yX7_isDancer, cX7_isDancer, 2, (some .boolean))
set_option maxRecDepth 20000 in
theorem oX7_isDancer : MO mX7_isDancer 1 := ⟨(Gs_of (tb_5 (i := 71) rfl) rfl), (Gs_of (tb_1 (i := 8) (by decide +kernel)) rfl), ⟨by decide +kernel, by decide +kernel, by decide +kernel⟩, Nat.le_of_ble_eq_true rfl⟩
theorem vX7_isDancer : MV mX7_isDancer 1 := ⟨oX7_isDancer, (Gs_of (tb_5 (i := 70) (by decide +kernel)) rfl), Gs_sel (i := 62) (q := (yX7_isDancer, 64)) (by decide +kernel) rfl⟩
abbrev mX7_isPlace : MN := (yX7_isPlace, cX7_isPlace, 2, (some .boolean))
set_option maxRecDepth 20000 in
theorem oX7_isPlace : MO mX7_isPlace 1 := ⟨(Gs_of (tb_6 (i := 39) rfl) rfl), (Gs_of (tb_1 (i := 8) (by decide +kernel)) rfl), ⟨by decide +kernel, by decide +kernel, by decide +kernel⟩, Nat.le_of_ble_eq_true rfl⟩
theorem vX7_isPlace : MV mX7_isPlace 1 := ⟨oX7_isPlace, (Gs_of (tb_6 (i := 38) (by decide +kernel)) rfl), Gs_sel (i := 95) (q := (yX7_isPlace, 64)) (by decide +kernel) rfl⟩
abbrev mX7_isBeats : MN := (yX7_isBeats, cX7_isBeats, 2, (some .boolean))
set_option maxRecDepth 20000 in
theorem oX7_isBeats : MO mX7_isBeats 1 := ⟨(Gs_of (tb_5 (i := 187) rfl) rfl), (Gs_of (tb_1 (i := 8) (by decide +kernel)) rfl), ⟨by decide +kernel, by decide +kernel, by decide +kernel⟩, Nat.le_of_ble_eq_true rfl⟩
theorem vX7_isBeats : MV mX7_isBeats 1 := ⟨oX7_isBeats, (Gs_of (tb_5 (i := 186) (by decide +kernel)) rfl), Gs_sel (i := 84) (q := (yX7_isBeats, 64)) (by decide +kernel) rfl⟩
abbrev mX7_laysAll : MN := (yX7_laysAll, cX7_laysAll, 4, none)
set_option maxRecDepth 20000 in
theorem oX7_laysAll : MO mX7_laysAll 2 := ⟨(Gs_of (tb_5 (i := 63) rfl) rfl), (Gs_of (tb_1 (i := 8) (by decide +kernel)) rfl), ⟨by decide +kernel, by decide +kernel, by decide +kernel⟩, Nat.le_of_ble_eq_true rfl⟩
theorem vX7_laysAll : MV mX7_laysAll 2 := ⟨oX7_laysAll, (Gs_of (tb_5 (i := 62) (by decide +kernel)) rfl), Gs_sel (i := 61) (q := (yX7_laysAll, 64)) (by decide +kernel) rfl⟩
abbrev mX7_dancer : MN := (yX7_dancer, cX7_dancer, 5, (some .int))
set_option maxRecDepth 20000 in
theorem oX7_dancer : MO mX7_dancer 3 := ⟨(Gs_of (tb_5 (i := 39) rfl) rfl), (Gs_of (tb_1 (i := 8) (by decide +kernel)) rfl), ⟨by decide +kernel, by decide +kernel, by decide +kernel⟩, Nat.le_of_ble_eq_true rfl⟩
theorem vX7_dancer : MV mX7_dancer 3 := ⟨oX7_dancer, (Gs_of (tb_5 (i := 37) (by decide +kernel)) rfl), (Gs_of (tb_5 (i := 38) (by decide +kernel)) rfl)⟩
abbrev mX7_after : MN := (yX7_after, cX7_after, 4, (some .int))
set_option maxRecDepth 20000 in
theorem oX7_after : MO mX7_after 2 := ⟨(Gs_of (tb_5 (i := 67) rfl) rfl), (Gs_of (tb_1 (i := 8) (by decide +kernel)) rfl), ⟨by decide +kernel, by decide +kernel, by decide +kernel⟩, Nat.le_of_ble_eq_true rfl⟩
theorem vX7_after : MV mX7_after 2 := ⟨oX7_after, (Gs_of (tb_5 (i := 65) (by decide +kernel)) rfl), (Gs_of (tb_5 (i := 66) (by decide +kernel)) rfl)⟩
abbrev mX7_begin : MN := (yX7_begin, cX7_begin, 4, (some .int))
set_option maxRecDepth 20000 in
theorem oX7_begin : MO mX7_begin 2 := ⟨(Gs_of (tb_5 (i := 75) rfl) rfl), (Gs_of (tb_1 (i := 8) (by decide +kernel)) rfl), ⟨by decide +kernel, by decide +kernel, by decide +kernel⟩, Nat.le_of_ble_eq_true rfl⟩
theorem vX7_begin : MV mX7_begin 2 := ⟨oX7_begin, (Gs_of (tb_5 (i := 73) (by decide +kernel)) rfl), (Gs_of (tb_5 (i := 74) (by decide +kernel)) rfl)⟩
abbrev mX7_row : MN := (yX7_row, cX7_row, 5, (some .int))
set_option maxRecDepth 20000 in
theorem oX7_row : MO mX7_row 3 := ⟨(Gs_of (tb_5 (i := 79) rfl) rfl), (Gs_of (tb_1 (i := 8) (by decide +kernel)) rfl), ⟨by decide +kernel, by decide +kernel, by decide +kernel⟩, Nat.le_of_ble_eq_true rfl⟩
theorem vX7_row : MV mX7_row 3 := ⟨oX7_row, (Gs_of (tb_5 (i := 77) (by decide +kernel)) rfl), (Gs_of (tb_5 (i := 78) (by decide +kernel)) rfl)⟩
abbrev mX7_feed : MN := (yX7_feed, cX7_feed, 2, (some .int))
set_option maxRecDepth 20000 in
theorem oX7_feed : MO mX7_feed 1 := ⟨(Gs_of (tb_5 (i := 83) rfl) rfl), (Gs_of (tb_1 (i := 8) (by decide +kernel)) rfl), ⟨by decide +kernel, by decide +kernel, by decide +kernel⟩, Nat.le_of_ble_eq_true rfl⟩
theorem vX7_feed : MV mX7_feed 1 := ⟨oX7_feed, (Gs_of (tb_5 (i := 81) (by decide +kernel)) rfl), (Gs_of (tb_5 (i := 82) (by decide +kernel)) rfl)⟩
abbrev mX7_next : MN := (yX7_next, cX7_next, 1, (some .int))
set_option maxRecDepth 20000 in
theorem oX7_next : MO mX7_next 0 := ⟨(Gs_of (tb_5 (i := 103) rfl) rfl), (Gs_of (tb_1 (i := 8) (by decide +kernel)) rfl), ⟨by decide +kernel, by decide +kernel, by decide +kernel⟩, Nat.le_of_ble_eq_true rfl⟩
theorem vX7_next : MV mX7_next 0 := ⟨oX7_next, (Gs_of (tb_5 (i := 102) (by decide +kernel)) rfl), Gs_sel (i := 66) (q := (yX7_next, 64)) (by decide +kernel) rfl⟩
abbrev mX7_takes : MN := (yX7_takes, cX7_takes, 2, (some .boolean))
set_option maxRecDepth 20000 in
theorem oX7_takes : MO mX7_takes 1 := ⟨(Gs_of (tb_5 (i := 111) rfl) rfl), (Gs_of (tb_1 (i := 8) (by decide +kernel)) rfl), ⟨by decide +kernel, by decide +kernel, by decide +kernel⟩, Nat.le_of_ble_eq_true rfl⟩
theorem vX7_takes : MV mX7_takes 1 := ⟨oX7_takes, (Gs_of (tb_5 (i := 110) (by decide +kernel)) rfl), Gs_sel (i := 68) (q := (yX7_takes, 64)) (by decide +kernel) rfl⟩
abbrev mX7_takesWord : MN := (yX7_takesWord, cX7_takesWord, 4, (some .boolean))
set_option maxRecDepth 20000 in
theorem oX7_takesWord : MO mX7_takesWord 2 := ⟨(Gs_of (tb_5 (i := 107) rfl) rfl), (Gs_of (tb_1 (i := 8) (by decide +kernel)) rfl), ⟨by decide +kernel, by decide +kernel, by decide +kernel⟩, Nat.le_of_ble_eq_true rfl⟩
theorem vX7_takesWord : MV mX7_takesWord 2 := ⟨oX7_takesWord, (Gs_of (tb_5 (i := 106) (by decide +kernel)) rfl), Gs_sel (i := 67) (q := (yX7_takesWord, 64)) (by decide +kernel) rfl⟩
abbrev mX7_isDigit : MN := (yX7_isDigit, cX7_isDigit, 1, (some .boolean))
set_option maxRecDepth 20000 in
theorem oX7_isDigit : MO mX7_isDigit 0 := ⟨(Gs_of (tb_5 (i := 119) rfl) rfl), (Gs_of (tb_1 (i := 8) (by decide +kernel)) rfl), ⟨by decide +kernel, by decide +kernel, by decide +kernel⟩, Nat.le_of_ble_eq_true rfl⟩
theorem vX7_isDigit : MV mX7_isDigit 0 := ⟨oX7_isDigit, (Gs_of (tb_5 (i := 118) (by decide +kernel)) rfl), Gs_sel (i := 70) (q := (yX7_isDigit, 64)) (by decide +kernel) rfl⟩
abbrev mX7_takesNumber : MN := (yX7_takesNumber, cX7_takesNumber, 2, (some .boolean))
set_option maxRecDepth 20000 in
theorem oX7_takesNumber : MO mX7_takesNumber 0 := ⟨(Gs_of (tb_5 (i := 115) rfl) rfl), (Gs_of (tb_1 (i := 8) (by decide +kernel)) rfl), ⟨by decide +kernel, by decide +kernel, by decide +kernel⟩, Nat.le_of_ble_eq_true rfl⟩
theorem vX7_takesNumber : MV mX7_takesNumber 0 := ⟨oX7_takesNumber, (Gs_of (tb_5 (i := 114) (by decide +kernel)) rfl), Gs_sel (i := 69) (q := (yX7_takesNumber, 64)) (by decide +kernel) rfl⟩
abbrev mX7_emits : MN := (yX7_emits, cX7_emits, 2, none)
set_option maxRecDepth 20000 in
theorem oX7_emits : MO mX7_emits 1 := ⟨(Gs_of (tb_5 (i := 135) rfl) rfl), (Gs_of (tb_1 (i := 8) (by decide +kernel)) rfl), ⟨by decide +kernel, by decide +kernel, by decide +kernel⟩, Nat.le_of_ble_eq_true rfl⟩
theorem vX7_emits : MV mX7_emits 1 := ⟨oX7_emits, (Gs_of (tb_5 (i := 134) (by decide +kernel)) rfl), Gs_sel (i := 74) (q := (yX7_emits, 64)) (by decide +kernel) rfl⟩
abbrev mX7_whole : MN := (yX7_whole, cX7_whole, 1, none)
set_option maxRecDepth 20000 in
theorem oX7_whole : MO mX7_whole 0 := ⟨(Gs_of (tb_5 (i := 139) rfl) rfl), (Gs_of (tb_1 (i := 8) (by decide +kernel)) rfl), ⟨by decide +kernel, by decide +kernel, by decide +kernel⟩, Nat.le_of_ble_eq_true rfl⟩
theorem vX7_whole : MV mX7_whole 0 := ⟨oX7_whole, (Gs_of (tb_5 (i := 138) (by decide +kernel)) rfl), Gs_sel (i := 75) (q := (yX7_whole, 64)) (by decide +kernel) rfl⟩
abbrev mX7_settle : MN := (yX7_settle, cX7_settle, 2, none)
set_option maxRecDepth 20000 in
theorem oX7_settle : MO mX7_settle 1 := ⟨(Gs_of (tb_5 (i := 143) rfl) rfl), (Gs_of (tb_1 (i := 8) (by decide +kernel)) rfl), ⟨by decide +kernel, by decide +kernel, by decide +kernel⟩, Nat.le_of_ble_eq_true rfl⟩
theorem vX7_settle : MV mX7_settle 1 := ⟨oX7_settle, (Gs_of (tb_5 (i := 142) (by decide +kernel)) rfl), Gs_sel (i := 76) (q := (yX7_settle, 64)) (by decide +kernel) rfl⟩
abbrev mX7_place : MN := (yX7_place, cX7_place, 2, (some .int))
set_option maxRecDepth 20000 in
theorem oX7_place : MO mX7_place 1 := ⟨(Gs_of (tb_5 (i := 131) rfl) rfl), (Gs_of (tb_1 (i := 8) (by decide +kernel)) rfl), ⟨by decide +kernel, by decide +kernel, by decide +kernel⟩, Nat.le_of_ble_eq_true rfl⟩
theorem vX7_place : MV mX7_place 1 := ⟨oX7_place, (Gs_of (tb_5 (i := 130) (by decide +kernel)) rfl), Gs_sel (i := 73) (q := (yX7_place, 64)) (by decide +kernel) rfl⟩
abbrev mX7_takesTest : MN := (yX7_takesTest, cX7_takesTest, 3, (some .boolean))
set_option maxRecDepth 20000 in
theorem oX7_takesTest : MO mX7_takesTest 0 := ⟨(Gs_of (tb_5 (i := 127) rfl) rfl), (Gs_of (tb_1 (i := 8) (by decide +kernel)) rfl), ⟨by decide +kernel, by decide +kernel, by decide +kernel⟩, Nat.le_of_ble_eq_true rfl⟩
theorem vX7_takesTest : MV mX7_takesTest 0 := ⟨oX7_takesTest, (Gs_of (tb_5 (i := 126) (by decide +kernel)) rfl), Gs_sel (i := 72) (q := (yX7_takesTest, 64)) (by decide +kernel) rfl⟩
abbrev mX7_takesE : MN := (yX7_takesE, cX7_takesE, 4, (some .boolean))
set_option maxRecDepth 20000 in
theorem oX7_takesE : MO mX7_takesE 1 := ⟨(Gs_of (tb_5 (i := 123) rfl) rfl), (Gs_of (tb_1 (i := 8) (by decide +kernel)) rfl), ⟨by decide +kernel, by decide +kernel, by decide +kernel⟩, Nat.le_of_ble_eq_true rfl⟩
theorem vX7_takesE : MV mX7_takesE 1 := ⟨oX7_takesE, (Gs_of (tb_5 (i := 122) (by decide +kernel)) rfl), Gs_sel (i := 71) (q := (yX7_takesE, 64)) (by decide +kernel) rfl⟩
abbrev mX7_takesHead : MN := (yX7_takesHead, cX7_takesHead, 2, (some .boolean))
set_option maxRecDepth 20000 in
theorem oX7_takesHead : MO mX7_takesHead 1 := ⟨(Gs_of (tb_5 (i := 99) rfl) rfl), (Gs_of (tb_1 (i := 8) (by decide +kernel)) rfl), ⟨by decide +kernel, by decide +kernel, by decide +kernel⟩, Nat.le_of_ble_eq_true rfl⟩
theorem vX7_takesHead : MV mX7_takesHead 1 := ⟨oX7_takesHead, (Gs_of (tb_5 (i := 98) (by decide +kernel)) rfl), Gs_sel (i := 65) (q := (yX7_takesHead, 64)) (by decide +kernel) rfl⟩
abbrev mX7_takesClause : MN := (yX7_takesClause, cX7_takesClause, 2, (some .boolean))
set_option maxRecDepth 20000 in
theorem oX7_takesClause : MO mX7_takesClause 1 := ⟨(Gs_of (tb_5 (i := 95) rfl) rfl), (Gs_of (tb_1 (i := 8) (by decide +kernel)) rfl), ⟨by decide +kernel, by decide +kernel, by decide +kernel⟩, Nat.le_of_ble_eq_true rfl⟩
theorem vX7_takesClause : MV mX7_takesClause 1 := ⟨oX7_takesClause, (Gs_of (tb_5 (i := 94) (by decide +kernel)) rfl), Gs_sel (i := 64) (q := (yX7_takesClause, 64)) (by decide +kernel) rfl⟩
abbrev mX7_goesText : MN := (yX7_goesText, cX7_goesText, 3, (some .boolean))
set_option maxRecDepth 20000 in
theorem oX7_goesText : MO mX7_goesText 1 := ⟨(Gs_of (tb_5 (i := 91) rfl) rfl), (Gs_of (tb_1 (i := 8) (by decide +kernel)) rfl), ⟨by decide +kernel, by decide +kernel, by decide +kernel⟩, Nat.le_of_ble_eq_true rfl⟩
theorem vX7_goesText : MV mX7_goesText 1 := ⟨oX7_goesText, (Gs_of (tb_5 (i := 90) (by decide +kernel)) rfl), Gs_sel (i := 63) (q := (yX7_goesText, 64)) (by decide +kernel) rfl⟩
abbrev mX7_hall : MN := (yX7_hall, cX7_hall, 3, (some .int))
set_option maxRecDepth 20000 in
theorem oX7_hall : MO mX7_hall 0 := ⟨(Gs_of (tb_5 (i := 87) rfl) rfl), (Gs_of (tb_1 (i := 8) (by decide +kernel)) rfl), ⟨by decide +kernel, by decide +kernel, by decide +kernel⟩, Nat.le_of_ble_eq_true rfl⟩
theorem vX7_hall : MV mX7_hall 0 := ⟨oX7_hall, (Gs_of (tb_5 (i := 85) (by decide +kernel)) rfl), (Gs_of (tb_5 (i := 86) (by decide +kernel)) rfl)⟩
abbrev mX7_firstClause : MN := (yX7_firstClause, cX7_firstClause, 1, (some .int))
set_option maxRecDepth 20000 in
theorem oX7_firstClause : MO mX7_firstClause 0 := ⟨(Gs_of (tb_5 (i := 55) rfl) rfl), (Gs_of (tb_1 (i := 8) (by decide +kernel)) rfl), ⟨by decide +kernel, by decide +kernel, by decide +kernel⟩, Nat.le_of_ble_eq_true rfl⟩
theorem vX7_firstClause : MV mX7_firstClause 0 := ⟨oX7_firstClause, (Gs_of (tb_5 (i := 54) (by decide +kernel)) rfl), Gs_sel (i := 59) (q := (yX7_firstClause, 64)) (by decide +kernel) rfl⟩
abbrev mX7_behindClauses : MN := (yX7_behindClauses, cX7_behindClauses, 1, (some .int))
set_option maxRecDepth 20000 in
theorem oX7_behindClauses : MO mX7_behindClauses 0 := ⟨(Gs_of (tb_5 (i := 59) rfl) rfl), (Gs_of (tb_1 (i := 8) (by decide +kernel)) rfl), ⟨by decide +kernel, by decide +kernel, by decide +kernel⟩, Nat.le_of_ble_eq_true rfl⟩
theorem vX7_behindClauses : MV mX7_behindClauses 0 := ⟨oX7_behindClauses, (Gs_of (tb_5 (i := 58) (by decide +kernel)) rfl), Gs_sel (i := 60) (q := (yX7_behindClauses, 64)) (by decide +kernel) rfl⟩
abbrev mX7_lastOf : MN := (yX7_lastOf, cX7_lastOf, 5, (some .int))
set_option maxRecDepth 20000 in
theorem oX7_lastOf : MO mX7_lastOf 2 := ⟨(Gs_of (tb_5 (i := 51) rfl) rfl), (Gs_of (tb_1 (i := 8) (by decide +kernel)) rfl), ⟨by decide +kernel, by decide +kernel, by decide +kernel⟩, Nat.le_of_ble_eq_true rfl⟩
theorem vX7_lastOf : MV mX7_lastOf 2 := ⟨oX7_lastOf, (Gs_of (tb_5 (i := 50) (by decide +kernel)) rfl), Gs_sel (i := 58) (q := (yX7_lastOf, 64)) (by decide +kernel) rfl⟩
abbrev mX7_wide : MN := (yX7_wide, cX7_wide, 2, (some .int))
set_option maxRecDepth 20000 in
theorem oX7_wide : MO mX7_wide 0 := ⟨(Gs_of (tb_5 (i := 47) rfl) rfl), (Gs_of (tb_1 (i := 8) (by decide +kernel)) rfl), ⟨by decide +kernel, by decide +kernel, by decide +kernel⟩, Nat.le_of_ble_eq_true rfl⟩
theorem vX7_wide : MV mX7_wide 0 := ⟨oX7_wide, (Gs_of (tb_5 (i := 46) (by decide +kernel)) rfl), Gs_sel (i := 57) (q := (yX7_wide, 64)) (by decide +kernel) rfl⟩
abbrev mX7_skip : MN := (yX7_skip, cX7_skip, 1, (some .int))
set_option maxRecDepth 20000 in
theorem oX7_skip : MO mX7_skip 0 := ⟨(Gs_of (tb_5 (i := 175) rfl) rfl), (Gs_of (tb_1 (i := 8) (by decide +kernel)) rfl), ⟨by decide +kernel, by decide +kernel, by decide +kernel⟩, Nat.le_of_ble_eq_true rfl⟩
theorem vX7_skip : MV mX7_skip 0 := ⟨oX7_skip, (Gs_of (tb_5 (i := 174) (by decide +kernel)) rfl), Gs_sel (i := 82) (q := (yX7_skip, 64)) (by decide +kernel) rfl⟩
abbrev mX7_factOf : MN := (yX7_factOf, cX7_factOf, 3, (some .int))
set_option maxRecDepth 20000 in
theorem oX7_factOf : MO mX7_factOf 2 := ⟨(Gs_of (tb_5 (i := 159) rfl) rfl), (Gs_of (tb_1 (i := 8) (by decide +kernel)) rfl), ⟨by decide +kernel, by decide +kernel, by decide +kernel⟩, Nat.le_of_ble_eq_true rfl⟩
theorem vX7_factOf : MV mX7_factOf 2 := ⟨oX7_factOf, (Gs_of (tb_5 (i := 158) (by decide +kernel)) rfl), Gs_sel (i := 79) (q := (yX7_factOf, 64)) (by decide +kernel) rfl⟩
abbrev mX7_holds : MN := (yX7_holds, cX7_holds, 8, (some .boolean))
set_option maxRecDepth 20000 in
theorem oX7_holds : MO mX7_holds 2 := ⟨(Gs_of (tb_5 (i := 155) rfl) rfl), (Gs_of (tb_1 (i := 8) (by decide +kernel)) rfl), ⟨by decide +kernel, by decide +kernel, by decide +kernel⟩, Nat.le_of_ble_eq_true rfl⟩
theorem vX7_holds : MV mX7_holds 2 := ⟨oX7_holds, (Gs_of (tb_5 (i := 154) (by decide +kernel)) rfl), Gs_sel (i := 78) (q := (yX7_holds, 64)) (by decide +kernel) rfl⟩
abbrev mX7_step : MN := (yX7_step, cX7_step, 4, (some .int))
set_option maxRecDepth 20000 in
theorem oX7_step : MO mX7_step 1 := ⟨(Gs_of (tb_5 (i := 151) rfl) rfl), (Gs_of (tb_1 (i := 8) (by decide +kernel)) rfl), ⟨by decide +kernel, by decide +kernel, by decide +kernel⟩, Nat.le_of_ble_eq_true rfl⟩
theorem vX7_step : MV mX7_step 1 := ⟨oX7_step, (Gs_of (tb_5 (i := 150) (by decide +kernel)) rfl), Gs_sel (i := 77) (q := (yX7_step, 64)) (by decide +kernel) rfl⟩
abbrev mX7_round : MN := (yX7_round, cX7_round, 3, (some .int))
set_option maxRecDepth 20000 in
theorem oX7_round : MO mX7_round 1 := ⟨(Gs_of (tb_5 (i := 167) rfl) rfl), (Gs_of (tb_1 (i := 8) (by decide +kernel)) rfl), ⟨by decide +kernel, by decide +kernel, by decide +kernel⟩, Nat.le_of_ble_eq_true rfl⟩
theorem vX7_round : MV mX7_round 1 := ⟨oX7_round, (Gs_of (tb_5 (i := 166) (by decide +kernel)) rfl), Gs_sel (i := 81) (q := (yX7_round, 64)) (by decide +kernel) rfl⟩
abbrev mX7_goes : MN := (yX7_goes, cX7_goes, 7, (some .int))
set_option maxRecDepth 20000 in
theorem oX7_goes : MO mX7_goes 1 := ⟨(Gs_of (tb_5 (i := 163) rfl) rfl), (Gs_of (tb_1 (i := 8) (by decide +kernel)) rfl), ⟨by decide +kernel, by decide +kernel, by decide +kernel⟩, Nat.le_of_ble_eq_true rfl⟩
theorem vX7_goes : MV mX7_goes 1 := ⟨oX7_goes, (Gs_of (tb_5 (i := 162) (by decide +kernel)) rfl), Gs_sel (i := 80) (q := (yX7_goes, 64)) (by decide +kernel) rfl⟩
abbrev mX7_of : MN := (yX7_of, cX7_of, 3, (some .int))
set_option maxRecDepth 20000 in
theorem oX7_of : MO mX7_of 2 := ⟨(Gs_of (tb_5 (i := 147) rfl) rfl), (Gs_of (tb_1 (i := 8) (by decide +kernel)) rfl), ⟨by decide +kernel, by decide +kernel, by decide +kernel⟩, Nat.le_of_ble_eq_true rfl⟩
theorem vX7_of : MV mX7_of 2 := ⟨oX7_of, (Gs_of (tb_5 (i := 145) (by decide +kernel)) rfl), (Gs_of (tb_5 (i := 146) (by decide +kernel)) rfl)⟩
abbrev mX7_many : MN := (yX7_many, cX7_many, 3, (some .int))
set_option maxRecDepth 20000 in
theorem oX7_many : MO mX7_many 0 := ⟨(Gs_of (tb_5 (i := 179) rfl) rfl), (Gs_of (tb_1 (i := 8) (by decide +kernel)) rfl), ⟨by decide +kernel, by decide +kernel, by decide +kernel⟩, Nat.le_of_ble_eq_true rfl⟩
theorem vX7_many : MV mX7_many 0 := ⟨oX7_many, (Gs_of (tb_5 (i := 178) (by decide +kernel)) rfl), Gs_sel (i := 83) (q := (yX7_many, 64)) (by decide +kernel) rfl⟩
abbrev mX7_told : MN := (yX7_told, cX7_told, 2, (some .int))
set_option maxRecDepth 20000 in
theorem oX7_told : MO mX7_told 1 := ⟨(Gs_of (tb_5 (i := 171) rfl) rfl), (Gs_of (tb_1 (i := 8) (by decide +kernel)) rfl), ⟨by decide +kernel, by decide +kernel, by decide +kernel⟩, Nat.le_of_ble_eq_true rfl⟩
theorem vX7_told : MV mX7_told 1 := ⟨oX7_told, (Gs_of (tb_5 (i := 169) (by decide +kernel)) rfl), (Gs_of (tb_5 (i := 170) (by decide +kernel)) rfl)⟩
abbrev mX7_goBeat : MN := (yX7_goBeat, cX7_goBeat, 4, none)
set_option maxRecDepth 20000 in
theorem oX7_goBeat : MO mX7_goBeat 1 := ⟨(Gs_of (tb_5 (i := 195) rfl) rfl), (Gs_of (tb_1 (i := 8) (by decide +kernel)) rfl), ⟨by decide +kernel, by decide +kernel, by decide +kernel⟩, Nat.le_of_ble_eq_true rfl⟩
theorem vX7_goBeat : MV mX7_goBeat 1 := ⟨oX7_goBeat, (Gs_of (tb_5 (i := 194) (by decide +kernel)) rfl), Gs_sel (i := 86) (q := (yX7_goBeat, 64)) (by decide +kernel) rfl⟩
abbrev mX7_go : MN := (yX7_go, cX7_go, 1, none)
set_option maxRecDepth 20000 in
theorem oX7_go : MO mX7_go 0 := ⟨(Gs_of (tb_5 (i := 191) rfl) rfl), (Gs_of (tb_1 (i := 8) (by decide +kernel)) rfl), ⟨by decide +kernel, by decide +kernel, by decide +kernel⟩, Nat.le_of_ble_eq_true rfl⟩
theorem vX7_go : MV mX7_go 0 := ⟨oX7_go, (Gs_of (tb_5 (i := 190) (by decide +kernel)) rfl), Gs_sel (i := 85) (q := (yX7_go, 64)) (by decide +kernel) rfl⟩
abbrev mX7_pass : MN := (yX7_pass, cX7_pass, 3, (some .int))
set_option maxRecDepth 20000 in
theorem oX7_pass : MO mX7_pass 1 := ⟨(Gs_of (tb_5 (i := 183) rfl) rfl), (Gs_of (tb_1 (i := 8) (by decide +kernel)) rfl), ⟨by decide +kernel, by decide +kernel, by decide +kernel⟩, Nat.le_of_ble_eq_true rfl⟩
theorem vX7_pass : MV mX7_pass 1 := ⟨oX7_pass, (Gs_of (tb_5 (i := 181) (by decide +kernel)) rfl), (Gs_of (tb_5 (i := 182) (by decide +kernel)) rfl)⟩
abbrev mX7_save : MN := (yX7_save, cX7_save, 2, none)
set_option maxRecDepth 20000 in
theorem oX7_save : MO mX7_save 0 := ⟨(Gs_of (tb_5 (i := 203) rfl) rfl), (Gs_of (tb_1 (i := 8) (by decide +kernel)) rfl), ⟨by decide +kernel, by decide +kernel, by decide +kernel⟩, Nat.le_of_ble_eq_true rfl⟩
theorem vX7_save : MV mX7_save 0 := ⟨oX7_save, (Gs_of (tb_5 (i := 202) (by decide +kernel)) rfl), Gs_sel (i := 87) (q := (yX7_save, 64)) (by decide +kernel) rfl⟩
abbrev mX7_putBack : MN := (yX7_putBack, cX7_putBack, 2, none)
set_option maxRecDepth 20000 in
theorem oX7_putBack : MO mX7_putBack 0 := ⟨(Gs_of (tb_5 (i := 207) rfl) rfl), (Gs_of (tb_1 (i := 8) (by decide +kernel)) rfl), ⟨by decide +kernel, by decide +kernel, by decide +kernel⟩, Nat.le_of_ble_eq_true rfl⟩
theorem vX7_putBack : MV mX7_putBack 0 := ⟨oX7_putBack, (Gs_of (tb_5 (i := 206) (by decide +kernel)) rfl), Gs_sel (i := 88) (q := (yX7_putBack, 64)) (by decide +kernel) rfl⟩
abbrev mX7_on : MN := (yX7_on, cX7_on, 4, (some .int))
set_option maxRecDepth 20000 in
theorem oX7_on : MO mX7_on 2 := ⟨(Gs_of (tb_5 (i := 199) rfl) rfl), (Gs_of (tb_1 (i := 8) (by decide +kernel)) rfl), ⟨by decide +kernel, by decide +kernel, by decide +kernel⟩, Nat.le_of_ble_eq_true rfl⟩
theorem vX7_on : MV mX7_on 2 := ⟨oX7_on, (Gs_of (tb_5 (i := 197) (by decide +kernel)) rfl), (Gs_of (tb_5 (i := 198) (by decide +kernel)) rfl)⟩
abbrev mX7_isAsKept : MN := (yX7_isAsKept, cX7_isAsKept, 2, (some .boolean))
set_option maxRecDepth 20000 in
theorem oX7_isAsKept : MO mX7_isAsKept 0 := ⟨(Gs_of (tb_5 (i := 215) rfl) rfl), (Gs_of (tb_1 (i := 8) (by decide +kernel)) rfl), ⟨by decide +kernel, by decide +kernel, by decide +kernel⟩, Nat.le_of_ble_eq_true rfl⟩
theorem vX7_isAsKept : MV mX7_isAsKept 0 := ⟨oX7_isAsKept, (Gs_of (tb_5 (i := 214) (by decide +kernel)) rfl), Gs_sel (i := 89) (q := (yX7_isAsKept, 64)) (by decide +kernel) rfl⟩
abbrev mX7_again : MN := (yX7_again, cX7_again, 3, (some .int))
set_option maxRecDepth 20000 in
theorem oX7_again : MO mX7_again 0 := ⟨(Gs_of (tb_5 (i := 211) rfl) rfl), (Gs_of (tb_1 (i := 8) (by decide +kernel)) rfl), ⟨by decide +kernel, by decide +kernel, by decide +kernel⟩, Nat.le_of_ble_eq_true rfl⟩
theorem vX7_again : MV mX7_again 0 := ⟨oX7_again, (Gs_of (tb_5 (i := 209) (by decide +kernel)) rfl), (Gs_of (tb_5 (i := 210) (by decide +kernel)) rfl)⟩
abbrev mX7_togetherBy : MN := (yX7_togetherBy, cX7_togetherBy, 3, (some .int))
set_option maxRecDepth 20000 in
theorem oX7_togetherBy : MO mX7_togetherBy 1 := ⟨(Gs_of (tb_5 (i := 223) rfl) rfl), (Gs_of (tb_1 (i := 8) (by decide +kernel)) rfl), ⟨by decide +kernel, by decide +kernel, by decide +kernel⟩, Nat.le_of_ble_eq_true rfl⟩
theorem vX7_togetherBy : MV mX7_togetherBy 1 := ⟨oX7_togetherBy, (Gs_of (tb_5 (i := 222) (by decide +kernel)) rfl), Gs_sel (i := 90) (q := (yX7_togetherBy, 64)) (by decide +kernel) rfl⟩
abbrev mX7_together : MN := (yX7_together, cX7_together, 1, (some .int))
set_option maxRecDepth 20000 in
theorem oX7_together : MO mX7_together 0 := ⟨(Gs_of (tb_5 (i := 219) rfl) rfl), (Gs_of (tb_1 (i := 8) (by decide +kernel)) rfl), ⟨by decide +kernel, by decide +kernel, by decide +kernel⟩, Nat.le_of_ble_eq_true rfl⟩
theorem vX7_together : MV mX7_together 0 := ⟨oX7_together, (Gs_of (tb_5 (i := 217) (by decide +kernel)) rfl), (Gs_of (tb_5 (i := 218) (by decide +kernel)) rfl)⟩
abbrev mX7_isStill : MN := (yX7_isStill, cX7_isStill, 2, (some .boolean))
set_option maxRecDepth 20000 in
theorem oX7_isStill : MO mX7_isStill 0 := ⟨(Gs_of (tb_5 (i := 231) rfl) rfl), (Gs_of (tb_1 (i := 8) (by decide +kernel)) rfl), ⟨by decide +kernel, by decide +kernel, by decide +kernel⟩, Nat.le_of_ble_eq_true rfl⟩
theorem vX7_isStill : MV mX7_isStill 0 := ⟨oX7_isStill, (Gs_of (tb_5 (i := 230) (by decide +kernel)) rfl), Gs_sel (i := 91) (q := (yX7_isStill, 64)) (by decide +kernel) rfl⟩
abbrev mX7_still : MN := (yX7_still, cX7_still, 2, (some .int))
set_option maxRecDepth 20000 in
theorem oX7_still : MO mX7_still 0 := ⟨(Gs_of (tb_5 (i := 227) rfl) rfl), (Gs_of (tb_1 (i := 8) (by decide +kernel)) rfl), ⟨by decide +kernel, by decide +kernel, by decide +kernel⟩, Nat.le_of_ble_eq_true rfl⟩
theorem vX7_still : MV mX7_still 0 := ⟨oX7_still, (Gs_of (tb_5 (i := 225) (by decide +kernel)) rfl), (Gs_of (tb_5 (i := 226) (by decide +kernel)) rfl)⟩
abbrev mX7_meet : MN := (yX7_meet, cX7_meet, 4, (some .int))
set_option maxRecDepth 20000 in
theorem oX7_meet : MO mX7_meet 2 := ⟨(Gs_of (tb_5 (i := 235) rfl) rfl), (Gs_of (tb_1 (i := 8) (by decide +kernel)) rfl), ⟨by decide +kernel, by decide +kernel, by decide +kernel⟩, Nat.le_of_ble_eq_true rfl⟩
theorem vX7_meet : MV mX7_meet 2 := ⟨oX7_meet, (Gs_of (tb_5 (i := 233) (by decide +kernel)) rfl), (Gs_of (tb_5 (i := 234) (by decide +kernel)) rfl)⟩
abbrev mX7_apart : MN := (yX7_apart, cX7_apart, 4, (some .int))
set_option maxRecDepth 20000 in
theorem oX7_apart : MO mX7_apart 2 := ⟨(Gs_of (tb_6 (i := 3) rfl) rfl), (Gs_of (tb_1 (i := 8) (by decide +kernel)) rfl), ⟨by decide +kernel, by decide +kernel, by decide +kernel⟩, Nat.le_of_ble_eq_true rfl⟩
theorem vX7_apart : MV mX7_apart 2 := ⟨oX7_apart, (Gs_of (tb_6 (i := 2) (by decide +kernel)) rfl), Gs_sel (i := 92) (q := (yX7_apart, 64)) (by decide +kernel) rfl⟩
abbrev mX7_far : MN := (yX7_far, cX7_far, 6, (some .int))
set_option maxRecDepth 20000 in
theorem oX7_far : MO mX7_far 3 := ⟨(Gs_of (tb_5 (i := 239) rfl) rfl), (Gs_of (tb_1 (i := 8) (by decide +kernel)) rfl), ⟨by decide +kernel, by decide +kernel, by decide +kernel⟩, Nat.le_of_ble_eq_true rfl⟩
theorem vX7_far : MV mX7_far 3 := ⟨oX7_far, (Gs_of (tb_5 (i := 237) (by decide +kernel)) rfl), (Gs_of (tb_5 (i := 238) (by decide +kernel)) rfl)⟩
abbrev mX7_whom : MN := (yX7_whom, cX7_whom, 7, (some .int))
set_option maxRecDepth 20000 in
theorem oX7_whom : MO mX7_whom 1 := ⟨(Gs_of (tb_6 (i := 7) rfl) rfl), (Gs_of (tb_1 (i := 8) (by decide +kernel)) rfl), ⟨by decide +kernel, by decide +kernel, by decide +kernel⟩, Nat.le_of_ble_eq_true rfl⟩
theorem vX7_whom : MV mX7_whom 1 := ⟨oX7_whom, (Gs_of (tb_6 (i := 5) (by decide +kernel)) rfl), (Gs_of (tb_6 (i := 6) (by decide +kernel)) rfl)⟩
abbrev mX7_isAlone : MN := (yX7_isAlone, cX7_isAlone, 3, (some .boolean))
set_option maxRecDepth 20000 in
theorem oX7_isAlone : MO mX7_isAlone 1 := ⟨(Gs_of (tb_6 (i := 15) rfl) rfl), (Gs_of (tb_1 (i := 8) (by decide +kernel)) rfl), ⟨by decide +kernel, by decide +kernel, by decide +kernel⟩, Nat.le_of_ble_eq_true rfl⟩
theorem vX7_isAlone : MV mX7_isAlone 1 := ⟨oX7_isAlone, (Gs_of (tb_6 (i := 14) (by decide +kernel)) rfl), Gs_sel (i := 93) (q := (yX7_isAlone, 64)) (by decide +kernel) rfl⟩
abbrev mX7_alone : MN := (yX7_alone, cX7_alone, 9, (some .int))
set_option maxRecDepth 20000 in
theorem oX7_alone : MO mX7_alone 3 := ⟨(Gs_of (tb_6 (i := 11) rfl) rfl), (Gs_of (tb_1 (i := 8) (by decide +kernel)) rfl), ⟨by decide +kernel, by decide +kernel, by decide +kernel⟩, Nat.le_of_ble_eq_true rfl⟩
theorem vX7_alone : MV mX7_alone 3 := ⟨oX7_alone, (Gs_of (tb_6 (i := 9) (by decide +kernel)) rfl), (Gs_of (tb_6 (i := 10) (by decide +kernel)) rfl)⟩
abbrev mX7_stop : MN := (yX7_stop, cX7_stop, 5, (some .int))
set_option maxRecDepth 20000 in
theorem oX7_stop : MO mX7_stop 0 := ⟨(Gs_of (tb_6 (i := 19) rfl) rfl), (Gs_of (tb_1 (i := 8) (by decide +kernel)) rfl), ⟨by decide +kernel, by decide +kernel, by decide +kernel⟩, Nat.le_of_ble_eq_true rfl⟩
theorem vX7_stop : MV mX7_stop 0 := ⟨oX7_stop, (Gs_of (tb_6 (i := 17) (by decide +kernel)) rfl), (Gs_of (tb_6 (i := 18) (by decide +kernel)) rfl)⟩
abbrev mX7_begins : MN := (yX7_begins, cX7_begins, 8, (some .int))
set_option maxRecDepth 20000 in
theorem oX7_begins : MO mX7_begins 3 := ⟨(Gs_of (tb_6 (i := 23) rfl) rfl), (Gs_of (tb_1 (i := 8) (by decide +kernel)) rfl), ⟨by decide +kernel, by decide +kernel, by decide +kernel⟩, Nat.le_of_ble_eq_true rfl⟩
theorem vX7_begins : MV mX7_begins 3 := ⟨oX7_begins, (Gs_of (tb_6 (i := 21) (by decide +kernel)) rfl), (Gs_of (tb_6 (i := 22) (by decide +kernel)) rfl)⟩
abbrev mX7_counts : MN := (yX7_counts, cX7_counts, 2, none)
set_option maxRecDepth 20000 in
theorem oX7_counts : MO mX7_counts 0 := ⟨(Gs_of (tb_6 (i := 31) rfl) rfl), (Gs_of (tb_1 (i := 8) (by decide +kernel)) rfl), ⟨by decide +kernel, by decide +kernel, by decide +kernel⟩, Nat.le_of_ble_eq_true rfl⟩
theorem vX7_counts : MV mX7_counts 0 := ⟨oX7_counts, (Gs_of (tb_6 (i := 30) (by decide +kernel)) rfl), Gs_sel (i := 94) (q := (yX7_counts, 64)) (by decide +kernel) rfl⟩
abbrev mX7_crowd : MN := (yX7_crowd, cX7_crowd, 4, (some .int))
set_option maxRecDepth 20000 in
theorem oX7_crowd : MO mX7_crowd 1 := ⟨(Gs_of (tb_6 (i := 27) rfl) rfl), (Gs_of (tb_1 (i := 8) (by decide +kernel)) rfl), ⟨by decide +kernel, by decide +kernel, by decide +kernel⟩, Nat.le_of_ble_eq_true rfl⟩
theorem vX7_crowd : MV mX7_crowd 1 := ⟨oX7_crowd, (Gs_of (tb_6 (i := 25) (by decide +kernel)) rfl), (Gs_of (tb_6 (i := 26) (by decide +kernel)) rfl)⟩
abbrev mX7_see : MN := (yX7_see, cX7_see, 4, (some .int))
set_option maxRecDepth 20000 in
theorem oX7_see : MO mX7_see 3 := ⟨(Gs_of (tb_6 (i := 35) rfl) rfl), (Gs_of (tb_1 (i := 8) (by decide +kernel)) rfl), ⟨by decide +kernel, by decide +kernel, by decide +kernel⟩, Nat.le_of_ble_eq_true rfl⟩
theorem vX7_see : MV mX7_see 3 := ⟨oX7_see, (Gs_of (tb_6 (i := 33) (by decide +kernel)) rfl), (Gs_of (tb_6 (i := 34) (by decide +kernel)) rfl)⟩
abbrev mX7_isSeen : MN := (yX7_isSeen, cX7_isSeen, 4, (some .boolean))
set_option maxRecDepth 20000 in
theorem oX7_isSeen : MO mX7_isSeen 0 := ⟨(Gs_of (tb_6 (i := 47) rfl) rfl), (Gs_of (tb_1 (i := 8) (by decide +kernel)) rfl), ⟨by decide +kernel, by decide +kernel, by decide +kernel⟩, Nat.le_of_ble_eq_true rfl⟩
theorem vX7_isSeen : MV mX7_isSeen 0 := ⟨oX7_isSeen, (Gs_of (tb_6 (i := 46) (by decide +kernel)) rfl), Gs_sel (i := 96) (q := (yX7_isSeen, 64)) (by decide +kernel) rfl⟩
abbrev mX7_can : MN := (yX7_can, cX7_can, 5, (some .int))
set_option maxRecDepth 20000 in
theorem oX7_can : MO mX7_can 1 := ⟨(Gs_of (tb_6 (i := 43) rfl) rfl), (Gs_of (tb_1 (i := 8) (by decide +kernel)) rfl), ⟨by decide +kernel, by decide +kernel, by decide +kernel⟩, Nat.le_of_ble_eq_true rfl⟩
theorem vX7_can : MV mX7_can 1 := ⟨oX7_can, (Gs_of (tb_6 (i := 41) (by decide +kernel)) rfl), (Gs_of (tb_6 (i := 42) (by decide +kernel)) rfl)⟩
abbrev mX7_divisor : MN := (yX7_divisor, cX7_divisor, 6, (some .int))
set_option maxRecDepth 20000 in
theorem oX7_divisor : MO mX7_divisor 2 := ⟨(Gs_of (tb_6 (i := 60) rfl) rfl), (Gs_of (tb_1 (i := 8) (by decide +kernel)) rfl), ⟨by decide +kernel, by decide +kernel, by decide +kernel⟩, Nat.le_of_ble_eq_true rfl⟩
theorem vX7_divisor : MV mX7_divisor 2 := ⟨oX7_divisor, (Gs_of (tb_6 (i := 59) (by decide +kernel)) rfl), Gs_sel (i := 98) (q := (yX7_divisor, 64)) (by decide +kernel) rfl⟩
abbrev mX7_lowest : MN := (yX7_lowest, cX7_lowest, 5, (some .long))
set_option maxRecDepth 20000 in
theorem oX7_lowest : MO mX7_lowest 3 := ⟨(Gs_of (tb_6 (i := 56) rfl) rfl), (Gs_of (tb_1 (i := 8) (by decide +kernel)) rfl), ⟨by decide +kernel, by decide +kernel, by decide +kernel⟩, Nat.le_of_ble_eq_true rfl⟩
theorem vX7_lowest : MV mX7_lowest 3 := ⟨oX7_lowest, (Gs_of (tb_6 (i := 55) (by decide +kernel)) rfl), Gs_sel (i := 97) (q := (yX7_lowest, 64)) (by decide +kernel) rfl⟩
abbrev mX7_odds : MN := (yX7_odds, cX7_odds, 6, (some .long))
set_option maxRecDepth 20000 in
theorem oX7_odds : MO mX7_odds 2 := ⟨(Gs_of (tb_6 (i := 51) rfl) rfl), (Gs_of (tb_1 (i := 8) (by decide +kernel)) rfl), ⟨by decide +kernel, by decide +kernel, by decide +kernel⟩, Nat.le_of_ble_eq_true rfl⟩
theorem vX7_odds : MV mX7_odds 2 := ⟨oX7_odds, (Gs_of (tb_6 (i := 49) (by decide +kernel)) rfl), (Gs_of (tb_6 (i := 50) (by decide +kernel)) rfl)⟩
abbrev mX7_mean : MN := (yX7_mean, cX7_mean, 6, (some .long))
set_option maxRecDepth 20000 in
theorem oX7_mean : MO mX7_mean 2 := ⟨(Gs_of (tb_6 (i := 64) rfl) rfl), (Gs_of (tb_1 (i := 8) (by decide +kernel)) rfl), ⟨by decide +kernel, by decide +kernel, by decide +kernel⟩, Nat.le_of_ble_eq_true rfl⟩
theorem vX7_mean : MV mX7_mean 2 := ⟨oX7_mean, (Gs_of (tb_6 (i := 62) (by decide +kernel)) rfl), (Gs_of (tb_6 (i := 63) (by decide +kernel)) rfl)⟩
abbrev mX7_dance : MN := (yX7_dance, cX7_dance, 2, (some .int))
set_option maxRecDepth 20000 in
theorem oX7_dance : MO mX7_dance 1 := ⟨(Gs_of (tb_6 (i := 68) rfl) rfl), (Gs_of (tb_1 (i := 8) (by decide +kernel)) rfl), ⟨by decide +kernel, by decide +kernel, by decide +kernel⟩, Nat.le_of_ble_eq_true rfl⟩
theorem vX7_dance : MV mX7_dance 1 := ⟨oX7_dance, (Gs_of (tb_6 (i := 66) (by decide +kernel)) rfl), (Gs_of (tb_6 (i := 67) (by decide +kernel)) rfl)⟩
abbrev mX7_danced : MN := (yX7_danced, cX7_danced, 4, (some .int))
set_option maxRecDepth 20000 in
theorem oX7_danced : MO mX7_danced 1 := ⟨(Gs_of (tb_6 (i := 72) rfl) rfl), (Gs_of (tb_1 (i := 8) (by decide +kernel)) rfl), ⟨by decide +kernel, by decide +kernel, by decide +kernel⟩, Nat.le_of_ble_eq_true rfl⟩
theorem vX7_danced : MV mX7_danced 1 := ⟨oX7_danced, (Gs_of (tb_6 (i := 70) (by decide +kernel)) rfl), (Gs_of (tb_6 (i := 71) (by decide +kernel)) rfl)⟩
abbrev mX7_book : MN := (yX7_book, cX7_book, 3, (some .int))
set_option maxRecDepth 20000 in
theorem oX7_book : MO mX7_book 2 := ⟨(Gs_of (tb_6 (i := 76) rfl) rfl), (Gs_of (tb_1 (i := 8) (by decide +kernel)) rfl), ⟨by decide +kernel, by decide +kernel, by decide +kernel⟩, Nat.le_of_ble_eq_true rfl⟩
theorem vX7_book : MV mX7_book 2 := ⟨oX7_book, (Gs_of (tb_6 (i := 74) (by decide +kernel)) rfl), (Gs_of (tb_6 (i := 75) (by decide +kernel)) rfl)⟩
abbrev mX7_looked : MN := (yX7_looked, cX7_looked, 2, (some .int))
set_option maxRecDepth 20000 in
theorem oX7_looked : MO mX7_looked 0 := ⟨(Gs_of (tb_6 (i := 80) rfl) rfl), (Gs_of (tb_1 (i := 8) (by decide +kernel)) rfl), ⟨by decide +kernel, by decide +kernel, by decide +kernel⟩, Nat.le_of_ble_eq_true rfl⟩
theorem vX7_looked : MV mX7_looked 0 := ⟨oX7_looked, (Gs_of (tb_6 (i := 78) (by decide +kernel)) rfl), (Gs_of (tb_6 (i := 79) (by decide +kernel)) rfl)⟩
abbrev mX7_judge : MN := (yX7_judge, cX7_judge, 4, (some .int))
set_option maxRecDepth 20000 in
theorem oX7_judge : MO mX7_judge 2 := ⟨(Gs_of (tb_6 (i := 84) rfl) rfl), (Gs_of (tb_1 (i := 8) (by decide +kernel)) rfl), ⟨by decide +kernel, by decide +kernel, by decide +kernel⟩, Nat.le_of_ble_eq_true rfl⟩
theorem vX7_judge : MV mX7_judge 2 := ⟨oX7_judge, (Gs_of (tb_6 (i := 82) (by decide +kernel)) rfl), (Gs_of (tb_6 (i := 83) (by decide +kernel)) rfl)⟩
abbrev mX7_image : MN := (yX7_image, cX7_image, 2, (some .int))
set_option maxRecDepth 20000 in
theorem oX7_image : MO mX7_image 0 := ⟨(Gs_of (tb_6 (i := 92) rfl) rfl), (Gs_of (tb_1 (i := 8) (by decide +kernel)) rfl), ⟨by decide +kernel, by decide +kernel, by decide +kernel⟩, Nat.le_of_ble_eq_true rfl⟩
theorem vX7_image : MV mX7_image 0 := ⟨oX7_image, (Gs_of (tb_6 (i := 90) (by decide +kernel)) rfl), (Gs_of (tb_6 (i := 91) (by decide +kernel)) rfl)⟩
abbrev mX7_undo : MN := (yX7_undo, cX7_undo, 2, (some .int))
set_option maxRecDepth 20000 in
theorem oX7_undo : MO mX7_undo 0 := ⟨(Gs_of (tb_6 (i := 96) rfl) rfl), (Gs_of (tb_1 (i := 8) (by decide +kernel)) rfl), ⟨by decide +kernel, by decide +kernel, by decide +kernel⟩, Nat.le_of_ble_eq_true rfl⟩
theorem vX7_undo : MV mX7_undo 0 := ⟨oX7_undo, (Gs_of (tb_6 (i := 94) (by decide +kernel)) rfl), (Gs_of (tb_6 (i := 95) (by decide +kernel)) rfl)⟩
abbrev mX7_body : MN := (yX7_body, cX7_body, 2, none)
set_option maxRecDepth 20000 in
theorem oX7_body : MO mX7_body 1 := ⟨(Gs_of (tb_6 (i := 108) rfl) rfl), (Gs_of (tb_1 (i := 8) (by decide +kernel)) rfl), ⟨by decide +kernel, by decide +kernel, by decide +kernel⟩, Nat.le_of_ble_eq_true rfl⟩
theorem vX7_body : MV mX7_body 1 := ⟨oX7_body, (Gs_of (tb_6 (i := 107) (by decide +kernel)) rfl), Gs_sel (i := 101) (q := (yX7_body, 64)) (by decide +kernel) rfl⟩
abbrev mX7_dancerSteps : MN := (yX7_dancerSteps, cX7_dancerSteps, 3, (some .int))
set_option maxRecDepth 20000 in
theorem oX7_dancerSteps : MO mX7_dancerSteps 2 := ⟨(Gs_of (tb_6 (i := 112) rfl) rfl), (Gs_of (tb_1 (i := 8) (by decide +kernel)) rfl), ⟨by decide +kernel, by decide +kernel, by decide +kernel⟩, Nat.le_of_ble_eq_true rfl⟩
theorem vX7_dancerSteps : MV mX7_dancerSteps 2 := ⟨oX7_dancerSteps, (Gs_of (tb_6 (i := 111) (by decide +kernel)) rfl), Gs_sel (i := 102) (q := (yX7_dancerSteps, 64)) (by decide +kernel) rfl⟩
abbrev mX7_stepsAct : MN := (yX7_stepsAct, cX7_stepsAct, 3, (some .int))
set_option maxRecDepth 20000 in
theorem oX7_stepsAct : MO mX7_stepsAct 2 := ⟨(Gs_of (tb_6 (i := 104) rfl) rfl), (Gs_of (tb_1 (i := 8) (by decide +kernel)) rfl), ⟨by decide +kernel, by decide +kernel, by decide +kernel⟩, Nat.le_of_ble_eq_true rfl⟩
theorem vX7_stepsAct : MV mX7_stepsAct 2 := ⟨oX7_stepsAct, (Gs_of (tb_6 (i := 103) (by decide +kernel)) rfl), Gs_sel (i := 100) (q := (yX7_stepsAct, 64)) (by decide +kernel) rfl⟩
abbrev mX7_dancerTurns : MN := (yX7_dancerTurns, cX7_dancerTurns, 3, (some .int))
set_option maxRecDepth 20000 in
theorem oX7_dancerTurns : MO mX7_dancerTurns 2 := ⟨(Gs_of (tb_6 (i := 124) rfl) rfl), (Gs_of (tb_1 (i := 8) (by decide +kernel)) rfl), ⟨by decide +kernel, by decide +kernel, by decide +kernel⟩, Nat.le_of_ble_eq_true rfl⟩
theorem vX7_dancerTurns : MV mX7_dancerTurns 2 := ⟨oX7_dancerTurns, (Gs_of (tb_6 (i := 123) (by decide +kernel)) rfl), Gs_sel (i := 105) (q := (yX7_dancerTurns, 64)) (by decide +kernel) rfl⟩
abbrev mX7_lateTurns : MN := (yX7_lateTurns, cX7_lateTurns, 3, (some .int))
set_option maxRecDepth 20000 in
theorem oX7_lateTurns : MO mX7_lateTurns 2 := ⟨(Gs_of (tb_6 (i := 120) rfl) rfl), (Gs_of (tb_1 (i := 8) (by decide +kernel)) rfl), ⟨by decide +kernel, by decide +kernel, by decide +kernel⟩, Nat.le_of_ble_eq_true rfl⟩
theorem vX7_lateTurns : MV mX7_lateTurns 2 := ⟨oX7_lateTurns, (Gs_of (tb_6 (i := 119) (by decide +kernel)) rfl), Gs_sel (i := 104) (q := (yX7_lateTurns, 64)) (by decide +kernel) rfl⟩
abbrev mX7_turnsAct : MN := (yX7_turnsAct, cX7_turnsAct, 4, (some .int))
set_option maxRecDepth 20000 in
theorem oX7_turnsAct : MO mX7_turnsAct 2 := ⟨(Gs_of (tb_6 (i := 116) rfl) rfl), (Gs_of (tb_1 (i := 8) (by decide +kernel)) rfl), ⟨by decide +kernel, by decide +kernel, by decide +kernel⟩, Nat.le_of_ble_eq_true rfl⟩
theorem vX7_turnsAct : MV mX7_turnsAct 2 := ⟨oX7_turnsAct, (Gs_of (tb_6 (i := 115) (by decide +kernel)) rfl), Gs_sel (i := 103) (q := (yX7_turnsAct, 64)) (by decide +kernel) rfl⟩
abbrev mX7_dancerTells : MN := (yX7_dancerTells, cX7_dancerTells, 3, (some .int))
set_option maxRecDepth 20000 in
theorem oX7_dancerTells : MO mX7_dancerTells 2 := ⟨(Gs_of (tb_6 (i := 132) rfl) rfl), (Gs_of (tb_1 (i := 8) (by decide +kernel)) rfl), ⟨by decide +kernel, by decide +kernel, by decide +kernel⟩, Nat.le_of_ble_eq_true rfl⟩
theorem vX7_dancerTells : MV mX7_dancerTells 2 := ⟨oX7_dancerTells, (Gs_of (tb_6 (i := 131) (by decide +kernel)) rfl), Gs_sel (i := 107) (q := (yX7_dancerTells, 64)) (by decide +kernel) rfl⟩
abbrev mX7_tellsAct : MN := (yX7_tellsAct, cX7_tellsAct, 4, (some .int))
set_option maxRecDepth 20000 in
theorem oX7_tellsAct : MO mX7_tellsAct 2 := ⟨(Gs_of (tb_6 (i := 128) rfl) rfl), (Gs_of (tb_1 (i := 8) (by decide +kernel)) rfl), ⟨by decide +kernel, by decide +kernel, by decide +kernel⟩, Nat.le_of_ble_eq_true rfl⟩
theorem vX7_tellsAct : MV mX7_tellsAct 2 := ⟨oX7_tellsAct, (Gs_of (tb_6 (i := 127) (by decide +kernel)) rfl), Gs_sel (i := 106) (q := (yX7_tellsAct, 64)) (by decide +kernel) rfl⟩
abbrev mX7_act : MN := (yX7_act, cX7_act, 4, (some .int))
set_option maxRecDepth 20000 in
theorem oX7_act : MO mX7_act 3 := ⟨(Gs_of (tb_6 (i := 100) rfl) rfl), (Gs_of (tb_1 (i := 8) (by decide +kernel)) rfl), ⟨by decide +kernel, by decide +kernel, by decide +kernel⟩, Nat.le_of_ble_eq_true rfl⟩
theorem vX7_act : MV mX7_act 3 := ⟨oX7_act, (Gs_of (tb_6 (i := 98) (by decide +kernel)) rfl), (Gs_of (tb_6 (i := 99) (by decide +kernel)) rfl)⟩
abbrev mX7_trace : MN := (yX7_trace, cX7_trace, 2, (some .int))
set_option maxRecDepth 20000 in
theorem oX7_trace : MO mX7_trace 1 := ⟨(Gs_of (tb_6 (i := 136) rfl) rfl), (Gs_of (tb_1 (i := 8) (by decide +kernel)) rfl), ⟨by decide +kernel, by decide +kernel, by decide +kernel⟩, Nat.le_of_ble_eq_true rfl⟩
theorem vX7_trace : MV mX7_trace 1 := ⟨oX7_trace, (Gs_of (tb_6 (i := 134) (by decide +kernel)) rfl), (Gs_of (tb_6 (i := 135) (by decide +kernel)) rfl)⟩
abbrev mX7_taken : MN := (yX7_taken, cX7_taken, 4, (some .int))
set_option maxRecDepth 20000 in
theorem oX7_taken : MO mX7_taken 2 := ⟨(Gs_of (tb_6 (i := 140) rfl) rfl), (Gs_of (tb_1 (i := 8) (by decide +kernel)) rfl), ⟨by decide +kernel, by decide +kernel, by decide +kernel⟩, Nat.le_of_ble_eq_true rfl⟩
theorem vX7_taken : MV mX7_taken 2 := ⟨oX7_taken, (Gs_of (tb_6 (i := 138) (by decide +kernel)) rfl), (Gs_of (tb_6 (i := 139) (by decide +kernel)) rfl)⟩
abbrev mX7_count : MN := (yX7_count, cX7_count, 2, (some .int))
set_option maxRecDepth 20000 in
theorem oX7_count : MO mX7_count 1 := ⟨(Gs_of (tb_6 (i := 144) rfl) rfl), (Gs_of (tb_1 (i := 8) (by decide +kernel)) rfl), ⟨by decide +kernel, by decide +kernel, by decide +kernel⟩, Nat.le_of_ble_eq_true rfl⟩
theorem vX7_count : MV mX7_count 1 := ⟨oX7_count, (Gs_of (tb_6 (i := 142) (by decide +kernel)) rfl), (Gs_of (tb_6 (i := 143) (by decide +kernel)) rfl)⟩
abbrev mX7_isTape : MN := (yX7_isTape, cX7_isTape, 2, (some .boolean))
set_option maxRecDepth 20000 in
theorem oX7_isTape : MO mX7_isTape 1 := ⟨(Gs_of (tb_6 (i := 88) rfl) rfl), (Gs_of (tb_1 (i := 8) (by decide +kernel)) rfl), ⟨by decide +kernel, by decide +kernel, by decide +kernel⟩, Nat.le_of_ble_eq_true rfl⟩
theorem vX7_isTape : MV mX7_isTape 1 := ⟨oX7_isTape, (Gs_of (tb_6 (i := 87) (by decide +kernel)) rfl), Gs_sel (i := 99) (q := (yX7_isTape, 64)) (by decide +kernel) rfl⟩
abbrev mX7_tape : MN := (yX7_tape, cX7_tape, 5, (some .int))
set_option maxRecDepth 20000 in
theorem oX7_tape : MO mX7_tape 3 := ⟨(Gs_of (tb_6 (i := 148) rfl) rfl), (Gs_of (tb_1 (i := 8) (by decide +kernel)) rfl), ⟨by decide +kernel, by decide +kernel, by decide +kernel⟩, Nat.le_of_ble_eq_true rfl⟩
theorem vX7_tape : MV mX7_tape 3 := ⟨oX7_tape, (Gs_of (tb_6 (i := 146) (by decide +kernel)) rfl), (Gs_of (tb_6 (i := 147) (by decide +kernel)) rfl)⟩
abbrev mX7_narrow : MN := (yX7_narrow, cX7_narrow, 4, (some .long))
set_option maxRecDepth 20000 in
theorem oX7_narrow : MO mX7_narrow 2 := ⟨(Gs_of (tb_6 (i := 156) rfl) rfl), (Gs_of (tb_1 (i := 8) (by decide +kernel)) rfl), ⟨by decide +kernel, by decide +kernel, by decide +kernel⟩, Nat.le_of_ble_eq_true rfl⟩
theorem vX7_narrow : MV mX7_narrow 2 := ⟨oX7_narrow, (Gs_of (tb_6 (i := 155) (by decide +kernel)) rfl), Gs_sel (i := 108) (q := (yX7_narrow, 64)) (by decide +kernel) rfl⟩
abbrev mX7_item : MN := (yX7_item, cX7_item, 5, (some .int))
set_option maxRecDepth 20000 in
theorem oX7_item : MO mX7_item 3 := ⟨(Gs_of (tb_6 (i := 152) rfl) rfl), (Gs_of (tb_1 (i := 8) (by decide +kernel)) rfl), ⟨by decide +kernel, by decide +kernel, by decide +kernel⟩, Nat.le_of_ble_eq_true rfl⟩
theorem vX7_item : MV mX7_item 3 := ⟨oX7_item, (Gs_of (tb_6 (i := 150) (by decide +kernel)) rfl), (Gs_of (tb_6 (i := 151) (by decide +kernel)) rfl)⟩
abbrev mX7_read : MN := (yX7_read, cX7_read, 3, (some .long))
set_option maxRecDepth 20000 in
theorem oX7_read : MO mX7_read 2 := ⟨(Gs_of (tb_6 (i := 160) rfl) rfl), (Gs_of (tb_1 (i := 8) (by decide +kernel)) rfl), ⟨by decide +kernel, by decide +kernel, by decide +kernel⟩, Nat.le_of_ble_eq_true rfl⟩
theorem vX7_read : MV mX7_read 2 := ⟨oX7_read, (Gs_of (tb_6 (i := 158) (by decide +kernel)) rfl), (Gs_of (tb_6 (i := 159) (by decide +kernel)) rfl)⟩
abbrev mX7_shift : MN := (yX7_shift, cX7_shift, 7, (some .int))
set_option maxRecDepth 20000 in
theorem oX7_shift : MO mX7_shift 5 := ⟨(Gs_of (tb_6 (i := 164) rfl) rfl), (Gs_of (tb_1 (i := 8) (by decide +kernel)) rfl), ⟨by decide +kernel, by decide +kernel, by decide +kernel⟩, Nat.le_of_ble_eq_true rfl⟩
theorem vX7_shift : MV mX7_shift 5 := ⟨oX7_shift, (Gs_of (tb_6 (i := 162) (by decide +kernel)) rfl), (Gs_of (tb_6 (i := 163) (by decide +kernel)) rfl)⟩
abbrev mJ11_isValidCodePoint_9a6ad : MN := (yJ11_isValidCodePoint_9a6ad, cJ11_isValidCodePoint_9a6ad, 2, (some .boolean))
set_option maxRecDepth 20000 in
theorem oJ11_isValidCodePoint_9a6ad : MO mJ11_isValidCodePoint_9a6ad 1 := ⟨(Gs_of (tb_3 (i := 7) rfl) rfl), (Gs_of (tb_1 (i := 14) (by decide +kernel)) rfl), ⟨by decide +kernel, by decide +kernel, by decide +kernel⟩, Nat.le_of_ble_eq_true rfl⟩
theorem sJ11_isValidCodePoint_9a6ad : MS mJ11_isValidCodePoint_9a6ad 1 := ⟨oJ11_isValidCodePoint_9a6ad, (Gs_of (tb_3 (i := 6) (by decide +kernel)) rfl)⟩
abbrev mJ11_highSurrogate_5068e : MN := (yJ11_highSurrogate_5068e, cJ11_highSurrogate_5068e, 1, (some .char))
set_option maxRecDepth 20000 in
theorem oJ11_highSurrogate_5068e : MO mJ11_highSurrogate_5068e 1 := ⟨(Gs_of (tb_3 (i := 10) rfl) rfl), (Gs_of (tb_1 (i := 14) (by decide +kernel)) rfl), ⟨by decide +kernel, by decide +kernel, by decide +kernel⟩, Nat.le_of_ble_eq_true rfl⟩
theorem sJ11_highSurrogate_5068e : MS mJ11_highSurrogate_5068e 1 := ⟨oJ11_highSurrogate_5068e, (Gs_of (tb_3 (i := 9) (by decide +kernel)) rfl)⟩
abbrev mJ11_lowSurrogate_5068e : MN := (yJ11_lowSurrogate_5068e, cJ11_lowSurrogate_5068e, 1, (some .char))
set_option maxRecDepth 20000 in
theorem oJ11_lowSurrogate_5068e : MO mJ11_lowSurrogate_5068e 1 := ⟨(Gs_of (tb_3 (i := 14) rfl) rfl), (Gs_of (tb_1 (i := 14) (by decide +kernel)) rfl), ⟨by decide +kernel, by decide +kernel, by decide +kernel⟩, Nat.le_of_ble_eq_true rfl⟩
theorem sJ11_lowSurrogate_5068e : MS mJ11_lowSurrogate_5068e 1 := ⟨oJ11_lowSurrogate_5068e, (Gs_of (tb_3 (i := 13) (by decide +kernel)) rfl)⟩
abbrev mJ9_floorMod_7cf53 : MN := (yJ9_floorMod_7cf53, cJ9_floorMod_7cf53, 3, (some .int))
set_option maxRecDepth 20000 in
theorem oJ9_floorMod_7cf53 : MO mJ9_floorMod_7cf53 2 := ⟨(Gs_of (tb_2 (i := 60) rfl) rfl), (Gs_of (tb_1 (i := 9) (by decide +kernel)) rfl), ⟨by decide +kernel, by decide +kernel, by decide +kernel⟩, Nat.le_of_ble_eq_true rfl⟩
theorem sJ9_floorMod_7cf53 : MS mJ9_floorMod_7cf53 2 := ⟨oJ9_floorMod_7cf53, (Gs_of (tb_2 (i := 59) (by decide +kernel)) rfl)⟩
abbrev mJ9_max_7cf53 : MN := (yJ9_max_7cf53, cJ9_max_7cf53, 2, (some .int))
set_option maxRecDepth 20000 in
theorem oJ9_max_7cf53 : MO mJ9_max_7cf53 2 := ⟨(Gs_of (tb_2 (i := 183) rfl) rfl), (Gs_of (tb_1 (i := 9) (by decide +kernel)) rfl), ⟨by decide +kernel, by decide +kernel, by decide +kernel⟩, Nat.le_of_ble_eq_true rfl⟩
theorem sJ9_max_7cf53 : MS mJ9_max_7cf53 2 := ⟨oJ9_max_7cf53, (Gs_of (tb_2 (i := 182) (by decide +kernel)) rfl)⟩
abbrev mJ9_min_7cf53 : MN := (yJ9_min_7cf53, cJ9_min_7cf53, 2, (some .int))
set_option maxRecDepth 20000 in
theorem oJ9_min_7cf53 : MO mJ9_min_7cf53 2 := ⟨(Gs_of (tb_2 (i := 180) rfl) rfl), (Gs_of (tb_1 (i := 9) (by decide +kernel)) rfl), ⟨by decide +kernel, by decide +kernel, by decide +kernel⟩, Nat.le_of_ble_eq_true rfl⟩
theorem sJ9_min_7cf53 : MS mJ9_min_7cf53 2 := ⟨oJ9_min_7cf53, (Gs_of (tb_2 (i := 179) (by decide +kernel)) rfl)⟩
abbrev mJ0_length_8abf5 : MN := (yJ0_length_8abf5, cJ0_length_8abf5, 1, (some .int))
set_option maxRecDepth 20000 in
theorem oJ0_length_8abf5 : MO mJ0_length_8abf5 0 := ⟨(Gs_of (tb_2 (i := 121) rfl) rfl), (Gs_of (tb_1 (i := 10) (by decide +kernel)) rfl), ⟨by decide +kernel, by decide +kernel, by decide +kernel⟩, Nat.le_of_ble_eq_true rfl⟩
theorem vJ0_length_8abf5 : MV mJ0_length_8abf5 0 := ⟨oJ0_length_8abf5, (Gs_of (tb_2 (i := 119) (by decide +kernel)) rfl), (Gs_of (tb_2 (i := 120) (by decide +kernel)) rfl)⟩
abbrev mJ0_charAt_5068e : MN := (yJ0_charAt_5068e, cJ0_charAt_5068e, 2, (some .char))
set_option maxRecDepth 20000 in
theorem oJ0_charAt_5068e : MO mJ0_charAt_5068e 1 := ⟨(Gs_of (tb_2 (i := 131) rfl) rfl), (Gs_of (tb_1 (i := 10) (by decide +kernel)) rfl), ⟨by decide +kernel, by decide +kernel, by decide +kernel⟩, Nat.le_of_ble_eq_true rfl⟩
theorem vJ0_charAt_5068e : MV mJ0_charAt_5068e 1 := ⟨oJ0_charAt_5068e, (Gs_of (tb_2 (i := 129) (by decide +kernel)) rfl), (Gs_of (tb_2 (i := 130) (by decide +kernel)) rfl)⟩
abbrev mJ0_indexOf_0f7a4 : MN := (yJ0_indexOf_0f7a4, cJ0_indexOf_0f7a4, 2, (some .int))
set_option maxRecDepth 20000 in
theorem oJ0_indexOf_0f7a4 : MO mJ0_indexOf_0f7a4 1 := ⟨(Gs_of (tb_2 (i := 204) rfl) rfl), (Gs_of (tb_1 (i := 10) (by decide +kernel)) rfl), ⟨by decide +kernel, by decide +kernel, by decide +kernel⟩, Nat.le_of_ble_eq_true rfl⟩
theorem vJ0_indexOf_0f7a4 : MV mJ0_indexOf_0f7a4 1 := ⟨oJ0_indexOf_0f7a4, (Gs_of (tb_2 (i := 202) (by decide +kernel)) rfl), (Gs_of (tb_2 (i := 203) (by decide +kernel)) rfl)⟩
abbrev mJ0_indexOf_7cf53 : MN := (yJ0_indexOf_7cf53, cJ0_indexOf_7cf53, 3, (some .int))
set_option maxRecDepth 20000 in
theorem oJ0_indexOf_7cf53 : MO mJ0_indexOf_7cf53 2 := ⟨(Gs_of (tb_2 (i := 208) rfl) rfl), (Gs_of (tb_1 (i := 10) (by decide +kernel)) rfl), ⟨by decide +kernel, by decide +kernel, by decide +kernel⟩, Nat.le_of_ble_eq_true rfl⟩
theorem vJ0_indexOf_7cf53 : MV mJ0_indexOf_7cf53 2 := ⟨oJ0_indexOf_7cf53, (Gs_of (tb_2 (i := 206) (by decide +kernel)) rfl), (Gs_of (tb_2 (i := 207) (by decide +kernel)) rfl)⟩
abbrev mJ0_coder_7d493 : MN := (yJ0_coder_7d493, cJ0_coder_7d493, 1, (some .byte))
set_option maxRecDepth 20000 in
theorem oJ0_coder_7d493 : MO mJ0_coder_7d493 0 := ⟨(Gs_of (tb_2 (i := 125) rfl) rfl), (Gs_of (tb_1 (i := 10) (by decide +kernel)) rfl), ⟨by decide +kernel, by decide +kernel, by decide +kernel⟩, Nat.le_of_ble_eq_true rfl⟩
theorem vJ0_coder_7d493 : MV mJ0_coder_7d493 0 := ⟨oJ0_coder_7d493, (Gs_of (tb_2 (i := 123) (by decide +kernel)) rfl), (Gs_of (tb_2 (i := 124) (by decide +kernel)) rfl)⟩
abbrev mJ0_isLatin1_aae02 : MN := (yJ0_isLatin1_aae02, cJ0_isLatin1_aae02, 1, (some .boolean))
set_option maxRecDepth 20000 in
theorem oJ0_isLatin1_aae02 : MO mJ0_isLatin1_aae02 0 := ⟨(Gs_of (tb_2 (i := 135) rfl) rfl), (Gs_of (tb_1 (i := 10) (by decide +kernel)) rfl), ⟨by decide +kernel, by decide +kernel, by decide +kernel⟩, Nat.le_of_ble_eq_true rfl⟩
theorem vJ0_isLatin1_aae02 : MV mJ0_isLatin1_aae02 0 := ⟨oJ0_isLatin1_aae02, (Gs_of (tb_2 (i := 133) (by decide +kernel)) rfl), (Gs_of (tb_2 (i := 134) (by decide +kernel)) rfl)⟩
abbrev mJ0_checkIndex_df160 : MN := (yJ0_checkIndex_df160, cJ0_checkIndex_df160, 2, none)
set_option maxRecDepth 20000 in
theorem oJ0_checkIndex_df160 : MO mJ0_checkIndex_df160 2 := ⟨(Gs_of (tb_2 (i := 141) rfl) rfl), (Gs_of (tb_1 (i := 10) (by decide +kernel)) rfl), ⟨by decide +kernel, by decide +kernel, by decide +kernel⟩, Nat.le_of_ble_eq_true rfl⟩
theorem sJ0_checkIndex_df160 : MS mJ0_checkIndex_df160 2 := ⟨oJ0_checkIndex_df160, (Gs_of (tb_2 (i := 140) (by decide +kernel)) rfl)⟩
abbrev mJ0_checkBoundsBeginEnd_23922 : MN := (yJ0_checkBoundsBeginEnd_23922, cJ0_checkBoundsBeginEnd_23922, 3, none)
set_option maxRecDepth 20000 in
theorem oJ0_checkBoundsBeginEnd_23922 : MO mJ0_checkBoundsBeginEnd_23922 3 := ⟨(Gs_of (tb_2 (i := 235) rfl) rfl), (Gs_of (tb_1 (i := 10) (by decide +kernel)) rfl), ⟨by decide +kernel, by decide +kernel, by decide +kernel⟩, Nat.le_of_ble_eq_true rfl⟩
theorem sJ0_checkBoundsBeginEnd_23922 : MS mJ0_checkBoundsBeginEnd_23922 3 := ⟨oJ0_checkBoundsBeginEnd_23922, (Gs_of (tb_2 (i := 234) (by decide +kernel)) rfl)⟩
abbrev mJ1_charAt_3b067 : MN := (yJ1_charAt_3b067, cJ1_charAt_3b067, 2, (some .char))
set_option maxRecDepth 20000 in
theorem oJ1_charAt_3b067 : MO mJ1_charAt_3b067 2 := ⟨(Gs_of (tb_2 (i := 138) rfl) rfl), (Gs_of (tb_1 (i := 11) (by decide +kernel)) rfl), ⟨by decide +kernel, by decide +kernel, by decide +kernel⟩, Nat.le_of_ble_eq_true rfl⟩
theorem sJ1_charAt_3b067 : MS mJ1_charAt_3b067 2 := ⟨oJ1_charAt_3b067, (Gs_of (tb_2 (i := 137) (by decide +kernel)) rfl)⟩
abbrev mJ1_canEncode_9a6ad : MN := (yJ1_canEncode_9a6ad, cJ1_canEncode_9a6ad, 1, (some .boolean))
set_option maxRecDepth 20000 in
theorem oJ1_canEncode_9a6ad : MO mJ1_canEncode_9a6ad 1 := ⟨(Gs_of (tb_2 (i := 215) rfl) rfl), (Gs_of (tb_1 (i := 11) (by decide +kernel)) rfl), ⟨by decide +kernel, by decide +kernel, by decide +kernel⟩, Nat.le_of_ble_eq_true rfl⟩
theorem sJ1_canEncode_9a6ad : MS mJ1_canEncode_9a6ad 1 := ⟨oJ1_canEncode_9a6ad, (Gs_of (tb_2 (i := 214) (by decide +kernel)) rfl)⟩
abbrev mJ1_indexOf_4cfef : MN := (yJ1_indexOf_4cfef, cJ1_indexOf_4cfef, 4, (some .int))
set_option maxRecDepth 20000 in
theorem oJ1_indexOf_4cfef : MO mJ1_indexOf_4cfef 4 := ⟨(Gs_of (tb_2 (i := 212) rfl) rfl), (Gs_of (tb_1 (i := 11) (by decide +kernel)) rfl), ⟨by decide +kernel, by decide +kernel, by decide +kernel⟩, Nat.le_of_ble_eq_true rfl⟩
theorem sJ1_indexOf_4cfef : MS mJ1_indexOf_4cfef 4 := ⟨oJ1_indexOf_4cfef, (Gs_of (tb_2 (i := 211) (by decide +kernel)) rfl)⟩
abbrev mJ1_indexOfChar_4cfef : MN := (yJ1_indexOfChar_4cfef, cJ1_indexOfChar_4cfef, 6, (some .int))
set_option maxRecDepth 20000 in
theorem oJ1_indexOfChar_4cfef : MO mJ1_indexOfChar_4cfef 4 := ⟨(Gs_of (tb_2 (i := 220) rfl) rfl), (Gs_of (tb_1 (i := 11) (by decide +kernel)) rfl), ⟨by decide +kernel, by decide +kernel, by decide +kernel⟩, Nat.le_of_ble_eq_true rfl⟩
theorem sJ1_indexOfChar_4cfef : MS mJ1_indexOfChar_4cfef 4 := ⟨oJ1_indexOfChar_4cfef, (Gs_of (tb_2 (i := 219) (by decide +kernel)) rfl)⟩
abbrev mJ2_getChar_3b067 : MN := (yJ2_getChar_3b067, cJ2_getChar_3b067, 2, (some .char))
set_option maxRecDepth 20000 in
theorem oJ2_getChar_3b067 : MO mJ2_getChar_3b067 2 := ⟨(Gs_of (tb_2 (i := 159) rfl) rfl), (Gs_of (tb_1 (i := 13) (by decide +kernel)) rfl), ⟨by decide +kernel, by decide +kernel, by decide +kernel⟩, Nat.le_of_ble_eq_true rfl⟩
theorem sJ2_getChar_3b067 : MS mJ2_getChar_3b067 2 := ⟨oJ2_getChar_3b067, (Gs_of (tb_2 (i := 158) (by decide +kernel)) rfl)⟩
abbrev mJ2_length_9d52b : MN := (yJ2_length_9d52b, cJ2_length_9d52b, 1, (some .int))
set_option maxRecDepth 20000 in
theorem oJ2_length_9d52b : MO mJ2_length_9d52b 1 := ⟨(Gs_of (tb_2 (i := 155) rfl) rfl), (Gs_of (tb_1 (i := 13) (by decide +kernel)) rfl), ⟨by decide +kernel, by decide +kernel, by decide +kernel⟩, Nat.le_of_ble_eq_true rfl⟩
theorem sJ2_length_9d52b : MS mJ2_length_9d52b 1 := ⟨oJ2_length_9d52b, (Gs_of (tb_2 (i := 154) (by decide +kernel)) rfl)⟩
abbrev mJ2_indexOf_4cfef : MN := (yJ2_indexOf_4cfef, cJ2_indexOf_4cfef, 4, (some .int))
set_option maxRecDepth 20000 in
theorem oJ2_indexOf_4cfef : MO mJ2_indexOf_4cfef 4 := ⟨(Gs_of (tb_2 (i := 223) rfl) rfl), (Gs_of (tb_1 (i := 13) (by decide +kernel)) rfl), ⟨by decide +kernel, by decide +kernel, by decide +kernel⟩, Nat.le_of_ble_eq_true rfl⟩
theorem sJ2_indexOf_4cfef : MS mJ2_indexOf_4cfef 4 := ⟨oJ2_indexOf_4cfef, (Gs_of (tb_2 (i := 222) (by decide +kernel)) rfl)⟩
abbrev mJ2_indexOfChar_4cfef : MN := (yJ2_indexOfChar_4cfef, cJ2_indexOfChar_4cfef, 4, (some .int))
set_option maxRecDepth 20000 in
theorem oJ2_indexOfChar_4cfef : MO mJ2_indexOfChar_4cfef 4 := ⟨(Gs_of (tb_2 (i := 229) rfl) rfl), (Gs_of (tb_1 (i := 13) (by decide +kernel)) rfl), ⟨by decide +kernel, by decide +kernel, by decide +kernel⟩, Nat.le_of_ble_eq_true rfl⟩
theorem sJ2_indexOfChar_4cfef : MS mJ2_indexOfChar_4cfef 4 := ⟨oJ2_indexOfChar_4cfef, (Gs_of (tb_2 (i := 228) (by decide +kernel)) rfl)⟩
abbrev mJ2_indexOfCharUnsafe_4cfef : MN := (yJ2_indexOfCharUnsafe_4cfef, cJ2_indexOfCharUnsafe_4cfef, 5, (some .int))
set_option maxRecDepth 20000 in
theorem oJ2_indexOfCharUnsafe_4cfef : MO mJ2_indexOfCharUnsafe_4cfef 4 := ⟨(Gs_of (tb_3 (i := 1) rfl) rfl), (Gs_of (tb_1 (i := 13) (by decide +kernel)) rfl), ⟨by decide +kernel, by decide +kernel, by decide +kernel⟩, Nat.le_of_ble_eq_true rfl⟩
theorem sJ2_indexOfCharUnsafe_4cfef : MS mJ2_indexOfCharUnsafe_4cfef 4 := ⟨oJ2_indexOfCharUnsafe_4cfef, (Gs_of (tb_3 (i := 0) (by decide +kernel)) rfl)⟩
abbrev mJ2_indexOfSupplementary_4cfef : MN := (yJ2_indexOfSupplementary_4cfef, cJ2_indexOfSupplementary_4cfef, 7, (some .int))
set_option maxRecDepth 20000 in
theorem oJ2_indexOfSupplementary_4cfef : MO mJ2_indexOfSupplementary_4cfef 4 := ⟨(Gs_of (tb_3 (i := 4) rfl) rfl), (Gs_of (tb_1 (i := 13) (by decide +kernel)) rfl), ⟨by decide +kernel, by decide +kernel, by decide +kernel⟩, Nat.le_of_ble_eq_true rfl⟩
theorem sJ2_indexOfSupplementary_4cfef : MS mJ2_indexOfSupplementary_4cfef 4 := ⟨oJ2_indexOfSupplementary_4cfef, (Gs_of (tb_3 (i := 3) (by decide +kernel)) rfl)⟩
abbrev mJ2_charAt_3b067 : MN := (yJ2_charAt_3b067, cJ2_charAt_3b067, 2, (some .char))
set_option maxRecDepth 20000 in
theorem oJ2_charAt_3b067 : MO mJ2_charAt_3b067 2 := ⟨(Gs_of (tb_2 (i := 149) rfl) rfl), (Gs_of (tb_1 (i := 13) (by decide +kernel)) rfl), ⟨by decide +kernel, by decide +kernel, by decide +kernel⟩, Nat.le_of_ble_eq_true rfl⟩
theorem sJ2_charAt_3b067 : MS mJ2_charAt_3b067 2 := ⟨oJ2_charAt_3b067, (Gs_of (tb_2 (i := 148) (by decide +kernel)) rfl)⟩
abbrev mJ2_checkIndex_2214a : MN := (yJ2_checkIndex_2214a, cJ2_checkIndex_2214a, 2, none)
set_option maxRecDepth 20000 in
theorem oJ2_checkIndex_2214a : MO mJ2_checkIndex_2214a 2 := ⟨(Gs_of (tb_2 (i := 152) rfl) rfl), (Gs_of (tb_1 (i := 13) (by decide +kernel)) rfl), ⟨by decide +kernel, by decide +kernel, by decide +kernel⟩, Nat.le_of_ble_eq_true rfl⟩
theorem sJ2_checkIndex_2214a : MS mJ2_checkIndex_2214a 2 := ⟨oJ2_checkIndex_2214a, (Gs_of (tb_2 (i := 151) (by decide +kernel)) rfl)⟩
abbrev mJ2_checkBoundsBeginEnd_d044e : MN := (yJ2_checkBoundsBeginEnd_d044e, cJ2_checkBoundsBeginEnd_d044e, 3, none)
set_option maxRecDepth 20000 in
theorem oJ2_checkBoundsBeginEnd_d044e : MO mJ2_checkBoundsBeginEnd_d044e 3 := ⟨(Gs_of (tb_2 (i := 232) rfl) rfl), (Gs_of (tb_1 (i := 13) (by decide +kernel)) rfl), ⟨by decide +kernel, by decide +kernel, by decide +kernel⟩, Nat.le_of_ble_eq_true rfl⟩
theorem sJ2_checkBoundsBeginEnd_d044e : MS mJ2_checkBoundsBeginEnd_d044e 3 := ⟨oJ2_checkBoundsBeginEnd_d044e, (Gs_of (tb_2 (i := 231) (by decide +kernel)) rfl)⟩
abbrev mJ7_fill_d0a16 : MN := (yJ7_fill_d0a16, cJ7_fill_d0a16, 5, none)
set_option maxRecDepth 20000 in
theorem oJ7_fill_d0a16 : MO mJ7_fill_d0a16 2 := ⟨(Gs_of (tb_4 (i := 54) rfl) rfl), (Gs_of (tb_1 (i := 16) (by decide +kernel)) rfl), ⟨by decide +kernel, by decide +kernel, by decide +kernel⟩, Nat.le_of_ble_eq_true rfl⟩
theorem sJ7_fill_d0a16 : MS mJ7_fill_d0a16 2 := ⟨oJ7_fill_d0a16, (Gs_of (tb_4 (i := 53) (by decide +kernel)) rfl)⟩
abbrev mJ7_fill_53178 : MN := (yJ7_fill_53178, cJ7_fill_53178, 4, none)
set_option maxRecDepth 20000 in
theorem oJ7_fill_53178 : MO mJ7_fill_53178 2 := ⟨(Gs_of (tb_3 (i := 150) rfl) rfl), (Gs_of (tb_1 (i := 16) (by decide +kernel)) rfl), ⟨by decide +kernel, by decide +kernel, by decide +kernel⟩, Nat.le_of_ble_eq_true rfl⟩
theorem sJ7_fill_53178 : MS mJ7_fill_53178 2 := ⟨oJ7_fill_53178, (Gs_of (tb_3 (i := 149) (by decide +kernel)) rfl)⟩
abbrev mJ3_checkIndex_8e157 : MN := (yJ3_checkIndex_8e157, cJ3_checkIndex_8e157, 3, (some .int))
set_option maxRecDepth 20000 in
theorem oJ3_checkIndex_8e157 : MO mJ3_checkIndex_8e157 3 := ⟨(Gs_of (tb_2 (i := 146) rfl) rfl), (Gs_of (tb_1 (i := 12) (by decide +kernel)) rfl), ⟨by decide +kernel, by decide +kernel, by decide +kernel⟩, Nat.le_of_ble_eq_true rfl⟩
theorem sJ3_checkIndex_8e157 : MS mJ3_checkIndex_8e157 3 := ⟨oJ3_checkIndex_8e157, (Gs_of (tb_2 (i := 145) (by decide +kernel)) rfl)⟩
abbrev mJ3_checkFromToIndex_8c36e : MN := (yJ3_checkFromToIndex_8c36e, cJ3_checkFromToIndex_8c36e, 4, (some .int))
set_option maxRecDepth 20000 in
theorem oJ3_checkFromToIndex_8c36e : MO mJ3_checkFromToIndex_8c36e 4 := ⟨(Gs_of (tb_2 (i := 238) rfl) rfl), (Gs_of (tb_1 (i := 12) (by decide +kernel)) rfl), ⟨by decide +kernel, by decide +kernel, by decide +kernel⟩, Nat.le_of_ble_eq_true rfl⟩
theorem sJ3_checkFromToIndex_8c36e : MS mJ3_checkFromToIndex_8c36e 4 := ⟨oJ3_checkFromToIndex_8c36e, (Gs_of (tb_2 (i := 237) (by decide +kernel)) rfl)⟩
theorem tX0_0 : FT 0 0 .int := ⟨_, rfl, rfl, by decide +kernel⟩
theorem tX0_2 : FT 0 2 .int := ⟨_, rfl, rfl, by decide +kernel⟩
theorem tX0_3 : FT 0 3 .int := ⟨_, rfl, rfl, by decide +kernel⟩
theorem tX0_4 : FT 0 4 .int := ⟨_, rfl, rfl, by decide +kernel⟩
theorem tX1_0 : FT 1 0 .int := ⟨_, rfl, rfl, by decide +kernel⟩
theorem tX1_4 : FT 1 4 .int := ⟨_, rfl, rfl, by decide +kernel⟩
theorem tX1_6 : FT 1 6 .int := ⟨_, rfl, rfl, by decide +kernel⟩
theorem tX2_0 : FT 2 0 .int := ⟨_, rfl, rfl, by decide +kernel⟩
theorem tX2_1 : FT 2 1 .int := ⟨_, rfl, rfl, by decide +kernel⟩
theorem tX2_2 : FT 2 2 (.object "TwoBeatsAgo$Hall") := ⟨_, rfl, rfl, by decide +kernel⟩
theorem tX3_0 : FT 3 0 .int := ⟨_, rfl, rfl, by decide +kernel⟩
theorem tX3_1 : FT 3 1 .int := ⟨_, rfl, rfl, by decide +kernel⟩
theorem tX3_2 : FT 3 2 .int := ⟨_, rfl, rfl, by decide +kernel⟩
theorem tX3_3 : FT 3 3 .int := ⟨_, rfl, rfl, by decide +kernel⟩
theorem tX4_1 : FT 4 1 .int := ⟨_, rfl, rfl, by decide +kernel⟩
theorem tX4_2 : FT 4 2 .int := ⟨_, rfl, rfl, by decide +kernel⟩
theorem tX5_0 : FT 5 0 .int := ⟨_, rfl, rfl, by decide +kernel⟩
theorem tX5_1 : FT 5 1 .int := ⟨_, rfl, rfl, by decide +kernel⟩
theorem tX6_5 : FT 6 5 .boolean := ⟨_, rfl, rfl, by decide +kernel⟩
theorem tX6_7 : FT 6 7 .int := ⟨_, rfl, rfl, by decide +kernel⟩
theorem tX7_0 : FT 7 0 .int := ⟨_, rfl, rfl, by decide +kernel⟩
theorem tX7_1 : FT 7 1 .int := ⟨_, rfl, rfl, by decide +kernel⟩
theorem tX7_7 : FT 7 7 .int := ⟨_, rfl, rfl, by decide +kernel⟩
theorem tX7_8 : FT 7 8 .int := ⟨_, rfl, rfl, by decide +kernel⟩
theorem tX7_9 : FT 7 9 .int := ⟨_, rfl, rfl, by decide +kernel⟩
theorem tX7_10 : FT 7 10 .int := ⟨_, rfl, rfl, by decide +kernel⟩
theorem tX7_11 : FT 7 11 .int := ⟨_, rfl, rfl, by decide +kernel⟩
theorem tX7_20 : FT 7 20 .int := ⟨_, rfl, rfl, by decide +kernel⟩
theorem tX7_21 : FT 7 21 .int := ⟨_, rfl, rfl, by decide +kernel⟩
theorem tX7_22 : FT 7 22 .int := ⟨_, rfl, rfl, by decide +kernel⟩
theorem tX7_27 : FT 7 27 .int := ⟨_, rfl, rfl, by decide +kernel⟩
theorem tX7_31 : FT 7 31 .int := ⟨_, rfl, rfl, by decide +kernel⟩
theorem tX7_35 : FT 7 35 .int := ⟨_, rfl, rfl, by decide +kernel⟩
theorem tX7_36 : FT 7 36 .int := ⟨_, rfl, rfl, by decide +kernel⟩
theorem tX7_40 : FT 7 40 .boolean := ⟨_, rfl, rfl, by decide +kernel⟩
theorem tX7_41 : FT 7 41 .int := ⟨_, rfl, rfl, by decide +kernel⟩
theorem tX7_42 : FT 7 42 .int := ⟨_, rfl, rfl, by decide +kernel⟩
theorem tX7_43 : FT 7 43 .int := ⟨_, rfl, rfl, by decide +kernel⟩
theorem tX7_44 : FT 7 44 .int := ⟨_, rfl, rfl, by decide +kernel⟩
theorem tX7_45 : FT 7 45 .int := ⟨_, rfl, rfl, by decide +kernel⟩
theorem tX7_46 : FT 7 46 .int := ⟨_, rfl, rfl, by decide +kernel⟩
theorem tX7_58 : FT 7 58 .int := ⟨_, rfl, rfl, by decide +kernel⟩
theorem fX6_17 : FL RX6 17 6 0 0 := ⟨rfl, _, rfl, by decide, Or.inl (Gs_of (tb_1 (i := 204) (by decide +kernel)) rfl)⟩
theorem fX6_23 : FL RX6 23 6 1 1 := ⟨rfl, _, rfl, by decide, Or.inl (Gs_of (tb_1 (i := 205) (by decide +kernel)) rfl)⟩
theorem fX6_26 : FL RX6 26 6 2 2 := ⟨rfl, _, rfl, by decide, Or.inl (Gs_of (tb_1 (i := 206) (by decide +kernel)) rfl)⟩
theorem fX6_32 : FL RX6 32 6 3 3 := ⟨rfl, _, rfl, by decide, Or.inl (Gs_of (tb_1 (i := 207) (by decide +kernel)) rfl)⟩
theorem fX6_36 : FL RX6 36 6 4 4 := ⟨rfl, _, rfl, by decide, Or.inl (Gs_of (tb_1 (i := 208) (by decide +kernel)) rfl)⟩
theorem fX6_39 : FL RX6 39 6 6 6 := ⟨rfl, _, rfl, by decide, Or.inl (Gs_of (tb_1 (i := 210) (by decide +kernel)) rfl)⟩
theorem fX6_46 : FL RX6 46 6 8 8 := ⟨rfl, _, rfl, by decide, Or.inl (Gs_of (tb_1 (i := 212) (by decide +kernel)) rfl)⟩
theorem fX6_53 : FL RX6 53 6 9 9 := ⟨rfl, _, rfl, by decide, Or.inl (Gs_of (tb_1 (i := 213) (by decide +kernel)) rfl)⟩
theorem fX6_59 : FL RX6 59 6 10 10 := ⟨rfl, _, rfl, by decide, Or.inl (Gs_of (tb_1 (i := 214) (by decide +kernel)) rfl)⟩
theorem fX6_64 : FL RX6 64 6 11 11 := ⟨rfl, _, rfl, by decide, Or.inl (Gs_of (tb_1 (i := 215) (by decide +kernel)) rfl)⟩
theorem fX6_72 : FL RX6 72 2 0 0 := ⟨rfl, _, rfl, by decide, Or.inr ⟨"TwoBeatsAgo", (Ns_of (tb_1 (i := 65) (by decide +kernel)) rfl)⟩⟩
theorem fX6_83 : FL RX6 83 2 3 3 := ⟨rfl, _, rfl, by decide, Or.inr ⟨"TwoBeatsAgo", (Ns_of (tb_1 (i := 73) (by decide +kernel)) rfl)⟩⟩
theorem fX6_86 : FL RX6 86 2 4 4 := ⟨rfl, _, rfl, by decide, Or.inr ⟨"TwoBeatsAgo", (Ns_of (tb_1 (i := 76) (by decide +kernel)) rfl)⟩⟩
theorem fX6_89 : FL RX6 89 2 5 5 := ⟨rfl, _, rfl, by decide, Or.inr ⟨"TwoBeatsAgo", (Ns_of (tb_1 (i := 78) (by decide +kernel)) rfl)⟩⟩
theorem fX6_92 : FL RX6 92 2 2 2 := ⟨rfl, _, rfl, by decide, Or.inr ⟨"TwoBeatsAgo", (Ns_of (tb_1 (i := 70) (by decide +kernel)) rfl)⟩⟩
theorem fX6_115 : FL RX6 115 2 7 7 := ⟨rfl, _, rfl, by decide, Or.inr ⟨"TwoBeatsAgo", (Ns_of (tb_1 (i := 81) (by decide +kernel)) rfl)⟩⟩
theorem fX6_118 : FL RX6 118 4 1 1 := ⟨rfl, _, rfl, by decide, Or.inr ⟨"TwoBeatsAgo", (Ns_of (tb_1 (i := 148) (by decide +kernel)) rfl)⟩⟩
theorem fX6_125 : FL RX6 125 6 7 7 := ⟨rfl, _, rfl, by decide, Or.inl (Gs_of (tb_1 (i := 211) (by decide +kernel)) rfl)⟩
theorem fX6_132 : FL RX6 132 4 2 2 := ⟨rfl, _, rfl, by decide, Or.inr ⟨"TwoBeatsAgo", (Ns_of (tb_1 (i := 150) (by decide +kernel)) rfl)⟩⟩
theorem fX6_138 : FL RX6 138 2 1 1 := ⟨rfl, _, rfl, by decide, Or.inr ⟨"TwoBeatsAgo", (Ns_of (tb_1 (i := 68) (by decide +kernel)) rfl)⟩⟩
theorem fX6_141 : FL RX6 141 3 0 0 := ⟨rfl, _, rfl, by decide, Or.inr ⟨"TwoBeatsAgo", (Ns_of (tb_1 (i := 33) (by decide +kernel)) rfl)⟩⟩
theorem fX6_144 : FL RX6 144 3 1 1 := ⟨rfl, _, rfl, by decide, Or.inr ⟨"TwoBeatsAgo", (Ns_of (tb_1 (i := 36) (by decide +kernel)) rfl)⟩⟩
theorem fX6_201 : FL RX6 201 1 0 0 := ⟨rfl, _, rfl, by decide, Or.inr ⟨"TwoBeatsAgo", (Ns_of (tb_1 (i := 109) (by decide +kernel)) rfl)⟩⟩
theorem fX6_216 : FL RX6 216 1 4 4 := ⟨rfl, _, rfl, by decide, Or.inr ⟨"TwoBeatsAgo", (Ns_of (tb_1 (i := 114) (by decide +kernel)) rfl)⟩⟩
theorem fX6_225 : FL RX6 225 1 6 6 := ⟨rfl, _, rfl, by decide, Or.inr ⟨"TwoBeatsAgo", (Ns_of (tb_1 (i := 117) (by decide +kernel)) rfl)⟩⟩
theorem fX6_237 : FL RX6 237 5 0 0 := ⟨rfl, _, rfl, by decide, Or.inr ⟨"TwoBeatsAgo", (Ns_of (tb_1 (i := 191) (by decide +kernel)) rfl)⟩⟩
theorem fX6_240 : FL RX6 240 5 1 1 := ⟨rfl, _, rfl, by decide, Or.inr ⟨"TwoBeatsAgo", (Ns_of (tb_1 (i := 193) (by decide +kernel)) rfl)⟩⟩
theorem fX6_241 : FL RX6 241 5 2 2 := ⟨rfl, _, rfl, by decide, Or.inr ⟨"TwoBeatsAgo", (Ns_of (tb_1 (i := 195) (by decide +kernel)) rfl)⟩⟩
theorem fX6_248 : FL RX6 248 6 5 5 := ⟨rfl, _, rfl, by decide, Or.inl (Gs_of (tb_1 (i := 209) (by decide +kernel)) rfl)⟩
theorem fX6_259 : FL RX6 259 0 0 0 := ⟨rfl, _, rfl, by decide, Or.inr ⟨"TwoBeatsAgo", (Ns_of (tb_1 (i := 166) (by decide +kernel)) rfl)⟩⟩
theorem fX6_262 : FL RX6 262 0 1 1 := ⟨rfl, _, rfl, by decide, Or.inr ⟨"TwoBeatsAgo", (Ns_of (tb_1 (i := 168) (by decide +kernel)) rfl)⟩⟩
theorem fX0_11 : FL RX0 11 0 1 1 := ⟨rfl, _, rfl, by decide, Or.inl (Gs_of (tb_1 (i := 167) (by decide +kernel)) rfl)⟩
theorem fX0_15 : FL RX0 15 0 0 0 := ⟨rfl, _, rfl, by decide, Or.inl (Gs_of (tb_1 (i := 165) (by decide +kernel)) rfl)⟩
theorem fX0_25 : FL RX0 25 2 3 3 := ⟨rfl, _, rfl, by decide, Or.inr ⟨"TwoBeatsAgo", (Ns_of (tb_1 (i := 72) (by decide +kernel)) rfl)⟩⟩
theorem fX0_28 : FL RX0 28 0 2 2 := ⟨rfl, _, rfl, by decide, Or.inl (Gs_of (tb_1 (i := 169) (by decide +kernel)) rfl)⟩
theorem fX0_30 : FL RX0 30 2 4 4 := ⟨rfl, _, rfl, by decide, Or.inr ⟨"TwoBeatsAgo", (Ns_of (tb_1 (i := 75) (by decide +kernel)) rfl)⟩⟩
theorem fX0_33 : FL RX0 33 0 3 3 := ⟨rfl, _, rfl, by decide, Or.inl (Gs_of (tb_1 (i := 170) (by decide +kernel)) rfl)⟩
theorem fX0_35 : FL RX0 35 0 4 4 := ⟨rfl, _, rfl, by decide, Or.inl (Gs_of (tb_1 (i := 171) (by decide +kernel)) rfl)⟩
theorem fX1_11 : FL RX1 11 1 1 1 := ⟨rfl, _, rfl, by decide, Or.inl (Gs_of (tb_1 (i := 110) (by decide +kernel)) rfl)⟩
theorem fX1_15 : FL RX1 15 1 2 2 := ⟨rfl, _, rfl, by decide, Or.inl (Gs_of (tb_1 (i := 111) (by decide +kernel)) rfl)⟩
theorem fX1_18 : FL RX1 18 1 3 3 := ⟨rfl, _, rfl, by decide, Or.inl (Gs_of (tb_1 (i := 112) (by decide +kernel)) rfl)⟩
theorem fX1_21 : FL RX1 21 1 5 5 := ⟨rfl, _, rfl, by decide, Or.inl (Gs_of (tb_1 (i := 115) (by decide +kernel)) rfl)⟩
theorem fX1_24 : FL RX1 24 1 7 7 := ⟨rfl, _, rfl, by decide, Or.inl (Gs_of (tb_1 (i := 118) (by decide +kernel)) rfl)⟩
theorem fX1_27 : FL RX1 27 1 8 8 := ⟨rfl, _, rfl, by decide, Or.inl (Gs_of (tb_1 (i := 119) (by decide +kernel)) rfl)⟩
theorem fX1_30 : FL RX1 30 1 0 0 := ⟨rfl, _, rfl, by decide, Or.inl (Gs_of (tb_1 (i := 108) (by decide +kernel)) rfl)⟩
theorem fX1_40 : FL RX1 40 1 4 4 := ⟨rfl, _, rfl, by decide, Or.inl (Gs_of (tb_1 (i := 113) (by decide +kernel)) rfl)⟩
theorem fX1_43 : FL RX1 43 1 6 6 := ⟨rfl, _, rfl, by decide, Or.inl (Gs_of (tb_1 (i := 116) (by decide +kernel)) rfl)⟩
theorem fX1_60 : FL RX1 60 2 0 0 := ⟨rfl, _, rfl, by decide, Or.inr ⟨"TwoBeatsAgo", (Ns_of (tb_1 (i := 66) (by decide +kernel)) rfl)⟩⟩
theorem fX2_9 : FL RX2 9 2 3 3 := ⟨rfl, _, rfl, by decide, Or.inl (Gs_of (tb_1 (i := 71) (by decide +kernel)) rfl)⟩
theorem fX2_15 : FL RX2 15 2 4 4 := ⟨rfl, _, rfl, by decide, Or.inl (Gs_of (tb_1 (i := 74) (by decide +kernel)) rfl)⟩
theorem fX2_18 : FL RX2 18 2 5 5 := ⟨rfl, _, rfl, by decide, Or.inl (Gs_of (tb_1 (i := 77) (by decide +kernel)) rfl)⟩
theorem fX2_21 : FL RX2 21 2 6 6 := ⟨rfl, _, rfl, by decide, Or.inl (Gs_of (tb_1 (i := 79) (by decide +kernel)) rfl)⟩
theorem fX2_24 : FL RX2 24 2 7 7 := ⟨rfl, _, rfl, by decide, Or.inl (Gs_of (tb_1 (i := 80) (by decide +kernel)) rfl)⟩
theorem fX2_27 : FL RX2 27 2 8 8 := ⟨rfl, _, rfl, by decide, Or.inl (Gs_of (tb_1 (i := 82) (by decide +kernel)) rfl)⟩
theorem fX2_30 : FL RX2 30 2 2 2 := ⟨rfl, _, rfl, by decide, Or.inl (Gs_of (tb_1 (i := 69) (by decide +kernel)) rfl)⟩
theorem fX2_34 : FL RX2 34 2 0 0 := ⟨rfl, _, rfl, by decide, Or.inl (Gs_of (tb_1 (i := 64) (by decide +kernel)) rfl)⟩
theorem fX2_38 : FL RX2 38 2 1 1 := ⟨rfl, _, rfl, by decide, Or.inl (Gs_of (tb_1 (i := 67) (by decide +kernel)) rfl)⟩
theorem fX2_47 : FL RX2 47 3 0 0 := ⟨rfl, _, rfl, by decide, Or.inr ⟨"TwoBeatsAgo", (Ns_of (tb_1 (i := 32) (by decide +kernel)) rfl)⟩⟩
theorem fX3_11 : FL RX3 11 3 0 0 := ⟨rfl, _, rfl, by decide, Or.inl (Gs_of (tb_1 (i := 31) (by decide +kernel)) rfl)⟩
theorem fX3_15 : FL RX3 15 3 4 4 := ⟨rfl, _, rfl, by decide, Or.inl (Gs_of (tb_1 (i := 39) (by decide +kernel)) rfl)⟩
theorem fX3_19 : FL RX3 19 3 5 5 := ⟨rfl, _, rfl, by decide, Or.inl (Gs_of (tb_1 (i := 40) (by decide +kernel)) rfl)⟩
theorem fX3_24 : FL RX3 24 3 6 6 := ⟨rfl, _, rfl, by decide, Or.inl (Gs_of (tb_1 (i := 41) (by decide +kernel)) rfl)⟩
theorem fX3_27 : FL RX3 27 3 1 1 := ⟨rfl, _, rfl, by decide, Or.inl (Gs_of (tb_1 (i := 34) (by decide +kernel)) rfl)⟩
theorem fX3_30 : FL RX3 30 3 2 2 := ⟨rfl, _, rfl, by decide, Or.inl (Gs_of (tb_1 (i := 37) (by decide +kernel)) rfl)⟩
theorem fX3_33 : FL RX3 33 3 3 3 := ⟨rfl, _, rfl, by decide, Or.inl (Gs_of (tb_1 (i := 38) (by decide +kernel)) rfl)⟩
theorem fX4_11 : FL RX4 11 4 0 0 := ⟨rfl, _, rfl, by decide, Or.inl (Gs_of (tb_1 (i := 146) (by decide +kernel)) rfl)⟩
theorem fX4_15 : FL RX4 15 4 1 1 := ⟨rfl, _, rfl, by decide, Or.inl (Gs_of (tb_1 (i := 147) (by decide +kernel)) rfl)⟩
theorem fX4_19 : FL RX4 19 4 2 2 := ⟨rfl, _, rfl, by decide, Or.inl (Gs_of (tb_1 (i := 149) (by decide +kernel)) rfl)⟩
theorem fX4_55 : FL RX4 55 3 1 1 := ⟨rfl, _, rfl, by decide, Or.inr ⟨"TwoBeatsAgo", (Ns_of (tb_1 (i := 35) (by decide +kernel)) rfl)⟩⟩
theorem fX5_9 : FL RX5 9 5 0 0 := ⟨rfl, _, rfl, by decide, Or.inl (Gs_of (tb_1 (i := 190) (by decide +kernel)) rfl)⟩
theorem fX5_13 : FL RX5 13 5 2 2 := ⟨rfl, _, rfl, by decide, Or.inl (Gs_of (tb_1 (i := 194) (by decide +kernel)) rfl)⟩
theorem fX5_26 : FL RX5 26 5 1 1 := ⟨rfl, _, rfl, by decide, Or.inl (Gs_of (tb_1 (i := 192) (by decide +kernel)) rfl)⟩
theorem fX7_7 : FL RX7 7 7 0 0 := ⟨rfl, _, rfl, by decide, Or.inl (Gs_of (tb_4 (i := 82) (by decide +kernel)) rfl)⟩
theorem fX7_13 : FL RX7 13 7 1 1 := ⟨rfl, _, rfl, by decide, Or.inl (Gs_of (tb_4 (i := 83) (by decide +kernel)) rfl)⟩
theorem fX7_16 : FL RX7 16 7 2 2 := ⟨rfl, _, rfl, by decide, Or.inl (Gs_of (tb_4 (i := 84) (by decide +kernel)) rfl)⟩
theorem fX7_20 : FL RX7 20 7 3 3 := ⟨rfl, _, rfl, by decide, Or.inl (Gs_of (tb_4 (i := 85) (by decide +kernel)) rfl)⟩
theorem fX7_23 : FL RX7 23 7 4 4 := ⟨rfl, _, rfl, by decide, Or.inl (Gs_of (tb_4 (i := 86) (by decide +kernel)) rfl)⟩
theorem fX7_26 : FL RX7 26 7 5 5 := ⟨rfl, _, rfl, by decide, Or.inl (Gs_of (tb_4 (i := 87) (by decide +kernel)) rfl)⟩
theorem fX7_29 : FL RX7 29 7 6 6 := ⟨rfl, _, rfl, by decide, Or.inl (Gs_of (tb_4 (i := 88) (by decide +kernel)) rfl)⟩
theorem fX7_32 : FL RX7 32 7 7 7 := ⟨rfl, _, rfl, by decide, Or.inl (Gs_of (tb_4 (i := 89) (by decide +kernel)) rfl)⟩
theorem fX7_35 : FL RX7 35 7 8 8 := ⟨rfl, _, rfl, by decide, Or.inl (Gs_of (tb_4 (i := 90) (by decide +kernel)) rfl)⟩
theorem fX7_38 : FL RX7 38 7 9 9 := ⟨rfl, _, rfl, by decide, Or.inl (Gs_of (tb_4 (i := 91) (by decide +kernel)) rfl)⟩
theorem fX7_41 : FL RX7 41 7 10 10 := ⟨rfl, _, rfl, by decide, Or.inl (Gs_of (tb_4 (i := 92) (by decide +kernel)) rfl)⟩
theorem fX7_44 : FL RX7 44 7 11 11 := ⟨rfl, _, rfl, by decide, Or.inl (Gs_of (tb_4 (i := 93) (by decide +kernel)) rfl)⟩
theorem fX7_47 : FL RX7 47 7 12 12 := ⟨rfl, _, rfl, by decide, Or.inl (Gs_of (tb_4 (i := 94) (by decide +kernel)) rfl)⟩
theorem fX7_50 : FL RX7 50 7 13 13 := ⟨rfl, _, rfl, by decide, Or.inl (Gs_of (tb_4 (i := 95) (by decide +kernel)) rfl)⟩
theorem fX7_53 : FL RX7 53 7 14 14 := ⟨rfl, _, rfl, by decide, Or.inl (Gs_of (tb_4 (i := 96) (by decide +kernel)) rfl)⟩
theorem fX7_56 : FL RX7 56 7 15 15 := ⟨rfl, _, rfl, by decide, Or.inl (Gs_of (tb_4 (i := 97) (by decide +kernel)) rfl)⟩
theorem fX7_59 : FL RX7 59 7 16 16 := ⟨rfl, _, rfl, by decide, Or.inl (Gs_of (tb_4 (i := 98) (by decide +kernel)) rfl)⟩
theorem fX7_62 : FL RX7 62 7 17 17 := ⟨rfl, _, rfl, by decide, Or.inl (Gs_of (tb_4 (i := 99) (by decide +kernel)) rfl)⟩
theorem fX7_65 : FL RX7 65 7 18 18 := ⟨rfl, _, rfl, by decide, Or.inl (Gs_of (tb_4 (i := 100) (by decide +kernel)) rfl)⟩
theorem fX7_68 : FL RX7 68 7 19 19 := ⟨rfl, _, rfl, by decide, Or.inl (Gs_of (tb_4 (i := 101) (by decide +kernel)) rfl)⟩
theorem fX7_71 : FL RX7 71 7 20 20 := ⟨rfl, _, rfl, by decide, Or.inl (Gs_of (tb_4 (i := 102) (by decide +kernel)) rfl)⟩
theorem fX7_74 : FL RX7 74 7 21 21 := ⟨rfl, _, rfl, by decide, Or.inl (Gs_of (tb_4 (i := 103) (by decide +kernel)) rfl)⟩
theorem fX7_77 : FL RX7 77 7 22 22 := ⟨rfl, _, rfl, by decide, Or.inl (Gs_of (tb_4 (i := 104) (by decide +kernel)) rfl)⟩
theorem fX7_80 : FL RX7 80 7 23 23 := ⟨rfl, _, rfl, by decide, Or.inl (Gs_of (tb_4 (i := 105) (by decide +kernel)) rfl)⟩
theorem fX7_83 : FL RX7 83 7 24 24 := ⟨rfl, _, rfl, by decide, Or.inl (Gs_of (tb_4 (i := 106) (by decide +kernel)) rfl)⟩
theorem fX7_87 : FL RX7 87 7 25 25 := ⟨rfl, _, rfl, by decide, Or.inl (Gs_of (tb_4 (i := 107) (by decide +kernel)) rfl)⟩
theorem fX7_90 : FL RX7 90 7 26 26 := ⟨rfl, _, rfl, by decide, Or.inl (Gs_of (tb_4 (i := 108) (by decide +kernel)) rfl)⟩
theorem fX7_93 : FL RX7 93 7 27 27 := ⟨rfl, _, rfl, by decide, Or.inl (Gs_of (tb_4 (i := 109) (by decide +kernel)) rfl)⟩
theorem fX7_96 : FL RX7 96 7 28 28 := ⟨rfl, _, rfl, by decide, Or.inl (Gs_of (tb_4 (i := 110) (by decide +kernel)) rfl)⟩
theorem fX7_99 : FL RX7 99 7 29 29 := ⟨rfl, _, rfl, by decide, Or.inl (Gs_of (tb_4 (i := 111) (by decide +kernel)) rfl)⟩
theorem fX7_102 : FL RX7 102 7 30 30 := ⟨rfl, _, rfl, by decide, Or.inl (Gs_of (tb_4 (i := 112) (by decide +kernel)) rfl)⟩
theorem fX7_105 : FL RX7 105 7 31 31 := ⟨rfl, _, rfl, by decide, Or.inl (Gs_of (tb_4 (i := 113) (by decide +kernel)) rfl)⟩
theorem fX7_108 : FL RX7 108 7 32 32 := ⟨rfl, _, rfl, by decide, Or.inl (Gs_of (tb_4 (i := 114) (by decide +kernel)) rfl)⟩
theorem fX7_111 : FL RX7 111 7 33 33 := ⟨rfl, _, rfl, by decide, Or.inl (Gs_of (tb_4 (i := 115) (by decide +kernel)) rfl)⟩
theorem fX7_114 : FL RX7 114 7 34 34 := ⟨rfl, _, rfl, by decide, Or.inl (Gs_of (tb_4 (i := 116) (by decide +kernel)) rfl)⟩
theorem fX7_117 : FL RX7 117 7 35 35 := ⟨rfl, _, rfl, by decide, Or.inl (Gs_of (tb_4 (i := 117) (by decide +kernel)) rfl)⟩
theorem fX7_120 : FL RX7 120 7 36 36 := ⟨rfl, _, rfl, by decide, Or.inl (Gs_of (tb_4 (i := 118) (by decide +kernel)) rfl)⟩
theorem fX7_123 : FL RX7 123 7 37 37 := ⟨rfl, _, rfl, by decide, Or.inl (Gs_of (tb_4 (i := 119) (by decide +kernel)) rfl)⟩
theorem fX7_126 : FL RX7 126 7 38 38 := ⟨rfl, _, rfl, by decide, Or.inl (Gs_of (tb_4 (i := 120) (by decide +kernel)) rfl)⟩
theorem fX7_129 : FL RX7 129 7 39 39 := ⟨rfl, _, rfl, by decide, Or.inl (Gs_of (tb_4 (i := 121) (by decide +kernel)) rfl)⟩
theorem fX7_132 : FL RX7 132 7 40 40 := ⟨rfl, _, rfl, by decide, Or.inl (Gs_of (tb_4 (i := 122) (by decide +kernel)) rfl)⟩
theorem fX7_136 : FL RX7 136 7 41 41 := ⟨rfl, _, rfl, by decide, Or.inl (Gs_of (tb_4 (i := 123) (by decide +kernel)) rfl)⟩
theorem fX7_139 : FL RX7 139 7 42 42 := ⟨rfl, _, rfl, by decide, Or.inl (Gs_of (tb_4 (i := 124) (by decide +kernel)) rfl)⟩
theorem fX7_142 : FL RX7 142 7 43 43 := ⟨rfl, _, rfl, by decide, Or.inl (Gs_of (tb_4 (i := 125) (by decide +kernel)) rfl)⟩
theorem fX7_145 : FL RX7 145 7 44 44 := ⟨rfl, _, rfl, by decide, Or.inl (Gs_of (tb_4 (i := 126) (by decide +kernel)) rfl)⟩
theorem fX7_148 : FL RX7 148 7 45 45 := ⟨rfl, _, rfl, by decide, Or.inl (Gs_of (tb_4 (i := 127) (by decide +kernel)) rfl)⟩
theorem fX7_151 : FL RX7 151 7 46 46 := ⟨rfl, _, rfl, by decide, Or.inl (Gs_of (tb_4 (i := 128) (by decide +kernel)) rfl)⟩
theorem fX7_154 : FL RX7 154 7 47 47 := ⟨rfl, _, rfl, by decide, Or.inl (Gs_of (tb_4 (i := 129) (by decide +kernel)) rfl)⟩
theorem fX7_157 : FL RX7 157 7 48 48 := ⟨rfl, _, rfl, by decide, Or.inl (Gs_of (tb_4 (i := 130) (by decide +kernel)) rfl)⟩
theorem fX7_160 : FL RX7 160 7 49 49 := ⟨rfl, _, rfl, by decide, Or.inl (Gs_of (tb_4 (i := 131) (by decide +kernel)) rfl)⟩
theorem fX7_163 : FL RX7 163 7 50 50 := ⟨rfl, _, rfl, by decide, Or.inl (Gs_of (tb_4 (i := 132) (by decide +kernel)) rfl)⟩
theorem fX7_166 : FL RX7 166 7 51 51 := ⟨rfl, _, rfl, by decide, Or.inl (Gs_of (tb_4 (i := 133) (by decide +kernel)) rfl)⟩
theorem fX7_169 : FL RX7 169 7 52 52 := ⟨rfl, _, rfl, by decide, Or.inl (Gs_of (tb_4 (i := 134) (by decide +kernel)) rfl)⟩
theorem fX7_172 : FL RX7 172 7 53 53 := ⟨rfl, _, rfl, by decide, Or.inl (Gs_of (tb_4 (i := 135) (by decide +kernel)) rfl)⟩
theorem fX7_175 : FL RX7 175 7 54 54 := ⟨rfl, _, rfl, by decide, Or.inl (Gs_of (tb_4 (i := 136) (by decide +kernel)) rfl)⟩
theorem fX7_178 : FL RX7 178 7 55 55 := ⟨rfl, _, rfl, by decide, Or.inl (Gs_of (tb_4 (i := 137) (by decide +kernel)) rfl)⟩
theorem fX7_181 : FL RX7 181 7 56 56 := ⟨rfl, _, rfl, by decide, Or.inl (Gs_of (tb_4 (i := 138) (by decide +kernel)) rfl)⟩
theorem fX7_184 : FL RX7 184 7 57 57 := ⟨rfl, _, rfl, by decide, Or.inl (Gs_of (tb_4 (i := 139) (by decide +kernel)) rfl)⟩
theorem fX7_187 : FL RX7 187 7 58 58 := ⟨rfl, _, rfl, by decide, Or.inl (Gs_of (tb_4 (i := 140) (by decide +kernel)) rfl)⟩
theorem fX7_190 : FL RX7 190 7 59 59 := ⟨rfl, _, rfl, by decide, Or.inl (Gs_of (tb_4 (i := 141) (by decide +kernel)) rfl)⟩
theorem fX7_193 : FL RX7 193 7 60 60 := ⟨rfl, _, rfl, by decide, Or.inl (Gs_of (tb_4 (i := 142) (by decide +kernel)) rfl)⟩
theorem fX7_196 : FL RX7 196 7 61 61 := ⟨rfl, _, rfl, by decide, Or.inl (Gs_of (tb_4 (i := 143) (by decide +kernel)) rfl)⟩
theorem fX7_199 : FL RX7 199 7 62 62 := ⟨rfl, _, rfl, by decide, Or.inl (Gs_of (tb_4 (i := 144) (by decide +kernel)) rfl)⟩
theorem fX7_203 : FL RX7 203 7 63 63 := ⟨rfl, _, rfl, by decide, Or.inl (Gs_of (tb_4 (i := 145) (by decide +kernel)) rfl)⟩
theorem lX6_68 : ML RX6 68 mX2_hasPlace := Or.inr ⟨"TwoBeatsAgo", (Ns_of (tb_2 (i := 5) (by decide +kernel)) rfl)⟩
theorem lX6_76 : ML RX6 76 mX2_join := Or.inr ⟨"TwoBeatsAgo", (Ns_of (tb_2 (i := 9) (by decide +kernel)) rfl)⟩
theorem lX6_80 : ML RX6 80 mX2_has := Or.inr ⟨"TwoBeatsAgo", (Ns_of (tb_2 (i := 25) (by decide +kernel)) rfl)⟩
theorem lX6_96 : ML RX6 96 mX3_stepFor := Or.inr ⟨"TwoBeatsAgo", (Ns_of (tb_2 (i := 26) (by decide +kernel)) rfl)⟩
theorem lX6_100 : ML RX6 100 mX2_goesOf := Or.inr ⟨"TwoBeatsAgo", (Ns_of (tb_2 (i := 42) (by decide +kernel)) rfl)⟩
theorem lX6_104 : ML RX6 104 mX2_wasOf := Or.inr ⟨"TwoBeatsAgo", (Ns_of (tb_2 (i := 61) (by decide +kernel)) rfl)⟩
theorem lX6_108 : ML RX6 108 mX2_follow := Or.inr ⟨"TwoBeatsAgo", (Ns_of (tb_2 (i := 66) (by decide +kernel)) rfl)⟩
theorem lX6_112 : ML RX6 112 mX2_standAt := Or.inr ⟨"TwoBeatsAgo", (Ns_of (tb_2 (i := 74) (by decide +kernel)) rfl)⟩
theorem lX6_121 : ML RX6 121 mX4_add := Or.inr ⟨"TwoBeatsAgo", (Ns_of (tb_2 (i := 83) (by decide +kernel)) rfl)⟩
theorem lX6_128 : ML RX6 128 mX4_readInto := Or.inr ⟨"TwoBeatsAgo", (Ns_of (tb_2 (i := 91) (by decide +kernel)) rfl)⟩
theorem lX6_135 : ML RX6 135 mX2_wrapAll := Or.inr ⟨"TwoBeatsAgo", (Ns_of (tb_3 (i := 28) (by decide +kernel)) rfl)⟩
theorem lX6_147 : ML RX6 147 mX2_placesTaken := Or.inr ⟨"TwoBeatsAgo", (Ns_of (tb_3 (i := 37) (by decide +kernel)) rfl)⟩
theorem lX6_151 : ML RX6 151 mX2_goBeats := Or.inr ⟨"TwoBeatsAgo", (Ns_of (tb_3 (i := 45) (by decide +kernel)) rfl)⟩
theorem lX6_155 : ML RX6 155 mX6_asksForPlaces := Or.inl (Gs_of (tb_3 (i := 65) (by decide +kernel)) rfl)
theorem lX6_158 : ML RX6 158 mX2_become := Or.inr ⟨"TwoBeatsAgo", (Ns_of (tb_3 (i := 69) (by decide +kernel)) rfl)⟩
theorem lX6_162 : ML RX6 162 mX6_placesAsked := Or.inl (Gs_of (tb_3 (i := 73) (by decide +kernel)) rfl)
theorem lX6_165 : ML RX6 165 mX2_goBeat := Or.inr ⟨"TwoBeatsAgo", (Ns_of (tb_3 (i := 81) (by decide +kernel)) rfl)⟩
theorem lX6_169 : ML RX6 169 mX2_standsAs := Or.inr ⟨"TwoBeatsAgo", (Ns_of (tb_3 (i := 82) (by decide +kernel)) rfl)⟩
theorem lX6_173 : ML RX6 173 mX2_beatsTillTogether := Or.inr ⟨"TwoBeatsAgo", (Ns_of (tb_3 (i := 90) (by decide +kernel)) rfl)⟩
theorem lX6_176 : ML RX6 176 mX2_nobodyMoves := Or.inr ⟨"TwoBeatsAgo", (Ns_of (tb_3 (i := 102) (by decide +kernel)) rfl)⟩
theorem lX6_180 : ML RX6 180 mX2_apart := Or.inr ⟨"TwoBeatsAgo", (Ns_of (tb_3 (i := 114) (by decide +kernel)) rfl)⟩
theorem lX6_183 : ML RX6 183 mJ9_max_7cf53 := Or.inl (Gs_of (tb_3 (i := 119) (by decide +kernel)) rfl)
theorem lX6_188 : ML RX6 188 mX2_beatsAlone := Or.inr ⟨"TwoBeatsAgo", (Ns_of (tb_3 (i := 128) (by decide +kernel)) rfl)⟩
theorem lX6_191 : ML RX6 191 mJ7_fill_53178 := Or.inl (Gs_of (tb_3 (i := 148) (by decide +kernel)) rfl)
theorem lX6_197 : ML RX6 197 mX2_countStanding := Or.inr ⟨"TwoBeatsAgo", (Ns_of (tb_3 (i := 151) (by decide +kernel)) rfl)⟩
theorem lX6_204 : ML RX6 204 mX1_addSeen := Or.inr ⟨"TwoBeatsAgo", (Ns_of (tb_3 (i := 159) (by decide +kernel)) rfl)⟩
theorem lX6_207 : ML RX6 207 mX1_allSeenOn := Or.inr ⟨"TwoBeatsAgo", (Ns_of (tb_3 (i := 167) (by decide +kernel)) rfl)⟩
theorem lX6_212 : ML RX6 212 mX6_partOfFraction := Or.inl (Gs_of (tb_3 (i := 178) (by decide +kernel)) rfl)
theorem lX6_219 : ML RX6 219 mX1_addStep := Or.inr ⟨"TwoBeatsAgo", (Ns_of (tb_3 (i := 189) (by decide +kernel)) rfl)⟩
theorem lX6_222 : ML RX6 222 mX1_danceOn := Or.inr ⟨"TwoBeatsAgo", (Ns_of (tb_3 (i := 197) (by decide +kernel)) rfl)⟩
theorem lX6_227 : ML RX6 227 mX1_addRow := Or.inr ⟨"TwoBeatsAgo", (Ns_of (tb_3 (i := 209) (by decide +kernel)) rfl)⟩
theorem lX6_230 : ML RX6 230 mX1_firstWrongRow := Or.inr ⟨"TwoBeatsAgo", (Ns_of (tb_3 (i := 217) (by decide +kernel)) rfl)⟩
theorem lX6_234 : ML RX6 234 mX6_isTape := Or.inl (Gs_of (tb_3 (i := 225) (by decide +kernel)) rfl)
theorem lX6_245 : ML RX6 245 mX1_become := Or.inr ⟨"TwoBeatsAgo", (Ns_of (tb_3 (i := 232) (by decide +kernel)) rfl)⟩
theorem lX6_252 : ML RX6 252 mX0_forgetTrace := Or.inr ⟨"TwoBeatsAgo", (Ns_of (tb_4 (i := 5) (by decide +kernel)) rfl)⟩
theorem lX6_255 : ML RX6 255 mX0_play := Or.inr ⟨"TwoBeatsAgo", (Ns_of (tb_4 (i := 9) (by decide +kernel)) rfl)⟩
theorem lX6_268 : ML RX6 268 mX5_become := Or.inr ⟨"TwoBeatsAgo", (Ns_of (tb_4 (i := 46) (by decide +kernel)) rfl)⟩
theorem lX6_270 : ML RX6 270 mX5_fitted := Or.inr ⟨"TwoBeatsAgo", (Ns_of (tb_4 (i := 59) (by decide +kernel)) rfl)⟩
theorem lX6_274 : ML RX6 274 mX5_hasStretch := Or.inr ⟨"TwoBeatsAgo", (Ns_of (tb_4 (i := 71) (by decide +kernel)) rfl)⟩
theorem lX6_284 : ML RX6 284 mJ9_floorMod_7cf53 := Or.inl (Gs_of (tb_2 (i := 58) (by decide +kernel)) rfl)
theorem lX0_19 : ML RX0 19 mX2_has := Or.inr ⟨"TwoBeatsAgo", (Ns_of (tb_4 (i := 13) (by decide +kernel)) rfl)⟩
theorem lX0_38 : ML RX0 38 mX0_run := Or.inl (Gs_of (tb_4 (i := 14) (by decide +kernel)) rfl)
theorem lX0_42 : ML RX0 42 mX0_bodyOf := Or.inl (Gs_of (tb_4 (i := 18) (by decide +kernel)) rfl)
theorem lX0_46 : ML RX0 46 mX0_runBody := Or.inl (Gs_of (tb_4 (i := 25) (by decide +kernel)) rfl)
theorem lX1_46 : ML RX1 46 mX2_wasOf := Or.inr ⟨"TwoBeatsAgo", (Ns_of (tb_3 (i := 171) (by decide +kernel)) rfl)⟩
theorem lX1_52 : ML RX1 52 mX2_goBeat := Or.inr ⟨"TwoBeatsAgo", (Ns_of (tb_3 (i := 172) (by decide +kernel)) rfl)⟩
theorem lX1_56 : ML RX1 56 mX1_followRound := Or.inl (Gs_of (tb_3 (i := 201) (by decide +kernel)) rfl)
theorem lX1_63 : ML RX1 63 mX2_follow := Or.inr ⟨"TwoBeatsAgo", (Ns_of (tb_3 (i := 204) (by decide +kernel)) rfl)⟩
theorem lX2_52 : ML RX2 52 mX2_has := Or.inl (Gs_of (tb_2 (i := 17) (by decide +kernel)) rfl)
theorem lX2_56 : ML RX2 56 mX2_standAt := Or.inl (Gs_of (tb_2 (i := 13) (by decide +kernel)) rfl)
theorem lX2_60 : ML RX2 60 mX6_modulo := Or.inr ⟨"TwoBeatsAgo", (Ns_of (tb_2 (i := 55) (by decide +kernel)) rfl)⟩
theorem lX2_64 : ML RX2 64 mX3_stepFor := Or.inr ⟨"TwoBeatsAgo", (Ns_of (tb_2 (i := 46) (by decide +kernel)) rfl)⟩
theorem lX2_68 : ML RX2 68 mX2_wasOf := Or.inl (Gs_of (tb_2 (i := 47) (by decide +kernel)) rfl)
theorem lX2_71 : ML RX2 71 mX2_isLazyNow := Or.inl (Gs_of (tb_2 (i := 51) (by decide +kernel)) rfl)
theorem lX2_74 : ML RX2 74 mX3_stopsAfter := Or.inr ⟨"TwoBeatsAgo", (Ns_of (tb_3 (i := 53) (by decide +kernel)) rfl)⟩
theorem lX2_77 : ML RX2 77 mX2_goesOf := Or.inl (Gs_of (tb_3 (i := 57) (by decide +kernel)) rfl)
theorem lX2_81 : ML RX2 81 mX2_goBeat := Or.inl (Gs_of (tb_3 (i := 49) (by decide +kernel)) rfl)
theorem lX2_85 : ML RX2 85 mX2_areTogether := Or.inl (Gs_of (tb_3 (i := 94) (by decide +kernel)) rfl)
theorem lX2_89 : ML RX2 89 mX2_isAlone := Or.inl (Gs_of (tb_3 (i := 132) (by decide +kernel)) rfl)
theorem lX2_92 : ML RX2 92 mJ9_min_7cf53 := Or.inl (Gs_of (tb_3 (i := 118) (by decide +kernel)) rfl)
theorem lX3_36 : ML RX3 36 mJ9_min_7cf53 := Or.inl (Gs_of (tb_2 (i := 178) (by decide +kernel)) rfl)
theorem lX3_42 : ML RX3 42 mJ9_max_7cf53 := Or.inl (Gs_of (tb_2 (i := 181) (by decide +kernel)) rfl)
theorem lX3_45 : ML RX3 45 mX3_holds := Or.inl (Gs_of (tb_2 (i := 30) (by decide +kernel)) rfl)
theorem lX3_51 : ML RX3 51 mX3_passes := Or.inl (Gs_of (tb_2 (i := 35) (by decide +kernel)) rfl)
theorem lX3_55 : ML RX3 55 mX2_letterOf := Or.inr ⟨"TwoBeatsAgo", (Ns_of (tb_2 (i := 38) (by decide +kernel)) rfl)⟩
theorem lX4_22 : ML RX4 22 mX3_clear := Or.inr ⟨"TwoBeatsAgo", (Ns_of (tb_2 (i := 95) (by decide +kernel)) rfl)⟩
theorem lX4_27 : ML RX4 27 mX4_readClause := Or.inl (Gs_of (tb_2 (i := 99) (by decide +kernel)) rfl)
theorem lX4_31 : ML RX4 31 mX4_takes := Or.inl (Gs_of (tb_2 (i := 166) (by decide +kernel)) rfl)
theorem lX4_35 : ML RX4 35 mX4_ahead := Or.inl (Gs_of (tb_2 (i := 103) (by decide +kernel)) rfl)
theorem lX4_39 : ML RX4 39 mX4_wordOf := Or.inl (Gs_of (tb_2 (i := 107) (by decide +kernel)) rfl)
theorem lX4_43 : ML RX4 43 mX4_takesAll := Or.inl (Gs_of (tb_2 (i := 114) (by decide +kernel)) rfl)
theorem lX4_47 : ML RX4 47 mX4_readNumber := Or.inl (Gs_of (tb_2 (i := 170) (by decide +kernel)) rfl)
theorem lX4_51 : ML RX4 51 mX3_setWide := Or.inr ⟨"TwoBeatsAgo", (Ns_of (tb_2 (i := 174) (by decide +kernel)) rfl)⟩
theorem lX4_58 : ML RX4 58 mX4_readAnyOf := Or.inl (Gs_of (tb_2 (i := 184) (by decide +kernel)) rfl)
theorem lX4_62 : ML RX4 62 mX3_addStep := Or.inr ⟨"TwoBeatsAgo", (Ns_of (tb_3 (i := 24) (by decide +kernel)) rfl)⟩
theorem lX4_73 : ML RX4 73 mX4_readAllOf := Or.inl (Gs_of (tb_2 (i := 188) (by decide +kernel)) rfl)
theorem lX4_76 : ML RX4 76 mX3_addCode := Or.inr ⟨"TwoBeatsAgo", (Ns_of (tb_3 (i := 20) (by decide +kernel)) rfl)⟩
theorem lX4_79 : ML RX4 79 mX4_readOne := Or.inl (Gs_of (tb_2 (i := 192) (by decide +kernel)) rfl)
theorem lX4_82 : ML RX4 82 mX4_readTest := Or.inl (Gs_of (tb_2 (i := 196) (by decide +kernel)) rfl)
theorem lX4_87 : ML RX4 87 mJ0_indexOf_0f7a4 := Or.inl (Gs_of (tb_2 (i := 201) (by decide +kernel)) rfl)
theorem lX4_95 : ML RX4 95 mX3_testCode := Or.inr ⟨"TwoBeatsAgo", (Ns_of (tb_3 (i := 17) (by decide +kernel)) rfl)⟩
theorem lX4_99 : ML RX4 99 mJ0_length_8abf5 := Or.inl (Gs_of (tb_2 (i := 118) (by decide +kernel)) rfl)
theorem lX4_101 : ML RX4 101 mJ0_charAt_5068e := Or.inl (Gs_of (tb_2 (i := 128) (by decide +kernel)) rfl)
theorem lX5_17 : ML RX5 17 mJ9_min_7cf53 := Or.inl (Gs_of (tb_4 (i := 50) (by decide +kernel)) rfl)
theorem lX5_23 : ML RX5 23 mJ9_max_7cf53 := Or.inl (Gs_of (tb_4 (i := 51) (by decide +kernel)) rfl)
theorem lX5_29 : ML RX5 29 mJ7_fill_d0a16 := Or.inl (Gs_of (tb_4 (i := 52) (by decide +kernel)) rfl)
theorem lL_13 : ML RL 13 mX6_dancer := Or.inl (Gs_of (tb_2 (i := 1) (by decide +kernel)) rfl)
theorem lL_17 : ML RL 17 mX7_dancer := Or.inl (Gs_of (tb_5 (i := 36) (by decide +kernel)) rfl)
theorem lL_18 : ML RL 18 mX6_of := Or.inl (Gs_of (tb_2 (i := 21) (by decide +kernel)) rfl)
theorem lL_22 : ML RL 22 mX7_of := Or.inl (Gs_of (tb_5 (i := 144) (by decide +kernel)) rfl)
theorem lL_23 : ML RL 23 mX6_after := Or.inl (Gs_of (tb_2 (i := 62) (by decide +kernel)) rfl)
theorem lL_26 : ML RL 26 mX7_after := Or.inl (Gs_of (tb_5 (i := 64) (by decide +kernel)) rfl)
theorem lL_27 : ML RL 27 mX6_begin := Or.inl (Gs_of (tb_2 (i := 70) (by decide +kernel)) rfl)
theorem lL_30 : ML RL 30 mX7_begin := Or.inl (Gs_of (tb_5 (i := 72) (by decide +kernel)) rfl)
theorem lL_31 : ML RL 31 mX6_row := Or.inl (Gs_of (tb_2 (i := 75) (by decide +kernel)) rfl)
theorem lL_34 : ML RL 34 mX7_row := Or.inl (Gs_of (tb_5 (i := 76) (by decide +kernel)) rfl)
theorem lL_35 : ML RL 35 mX6_feed := Or.inl (Gs_of (tb_2 (i := 79) (by decide +kernel)) rfl)
theorem lL_39 : ML RL 39 mX7_feed := Or.inl (Gs_of (tb_5 (i := 80) (by decide +kernel)) rfl)
theorem lL_40 : ML RL 40 mX6_hall := Or.inl (Gs_of (tb_2 (i := 87) (by decide +kernel)) rfl)
theorem lL_44 : ML RL 44 mX7_hall := Or.inl (Gs_of (tb_5 (i := 84) (by decide +kernel)) rfl)
theorem lL_45 : ML RL 45 mX6_told := Or.inl (Gs_of (tb_3 (i := 33) (by decide +kernel)) rfl)
theorem lL_48 : ML RL 48 mX7_told := Or.inl (Gs_of (tb_5 (i := 168) (by decide +kernel)) rfl)
theorem lL_49 : ML RL 49 mX6_pass := Or.inl (Gs_of (tb_3 (i := 41) (by decide +kernel)) rfl)
theorem lL_52 : ML RL 52 mX7_pass := Or.inl (Gs_of (tb_5 (i := 180) (by decide +kernel)) rfl)
theorem lL_53 : ML RL 53 mX6_on := Or.inl (Gs_of (tb_3 (i := 61) (by decide +kernel)) rfl)
theorem lL_56 : ML RL 56 mX7_on := Or.inl (Gs_of (tb_5 (i := 196) (by decide +kernel)) rfl)
theorem lL_57 : ML RL 57 mX6_again := Or.inl (Gs_of (tb_3 (i := 77) (by decide +kernel)) rfl)
theorem lL_60 : ML RL 60 mX7_again := Or.inl (Gs_of (tb_5 (i := 208) (by decide +kernel)) rfl)
theorem lL_61 : ML RL 61 mX6_together := Or.inl (Gs_of (tb_3 (i := 86) (by decide +kernel)) rfl)
theorem lL_64 : ML RL 64 mX7_together := Or.inl (Gs_of (tb_5 (i := 216) (by decide +kernel)) rfl)
theorem lL_65 : ML RL 65 mX6_still := Or.inl (Gs_of (tb_3 (i := 98) (by decide +kernel)) rfl)
theorem lL_68 : ML RL 68 mX7_still := Or.inl (Gs_of (tb_5 (i := 224) (by decide +kernel)) rfl)
theorem lL_69 : ML RL 69 mX6_meet := Or.inl (Gs_of (tb_3 (i := 106) (by decide +kernel)) rfl)
theorem lL_72 : ML RL 72 mX7_meet := Or.inl (Gs_of (tb_5 (i := 232) (by decide +kernel)) rfl)
theorem lL_73 : ML RL 73 mX6_far := Or.inl (Gs_of (tb_3 (i := 110) (by decide +kernel)) rfl)
theorem lL_76 : ML RL 76 mX7_far := Or.inl (Gs_of (tb_5 (i := 236) (by decide +kernel)) rfl)
theorem lL_77 : ML RL 77 mX6_whom := Or.inl (Gs_of (tb_3 (i := 120) (by decide +kernel)) rfl)
theorem lL_80 : ML RL 80 mX7_whom := Or.inl (Gs_of (tb_6 (i := 4) (by decide +kernel)) rfl)
theorem lL_81 : ML RL 81 mX6_alone := Or.inl (Gs_of (tb_3 (i := 124) (by decide +kernel)) rfl)
theorem lL_84 : ML RL 84 mX7_alone := Or.inl (Gs_of (tb_6 (i := 8) (by decide +kernel)) rfl)
theorem lL_85 : ML RL 85 mX6_stop := Or.inl (Gs_of (tb_3 (i := 136) (by decide +kernel)) rfl)
theorem lL_88 : ML RL 88 mX7_stop := Or.inl (Gs_of (tb_6 (i := 16) (by decide +kernel)) rfl)
theorem lL_89 : ML RL 89 mX6_begins := Or.inl (Gs_of (tb_3 (i := 140) (by decide +kernel)) rfl)
theorem lL_92 : ML RL 92 mX7_begins := Or.inl (Gs_of (tb_6 (i := 20) (by decide +kernel)) rfl)
theorem lL_93 : ML RL 93 mX6_crowd := Or.inl (Gs_of (tb_3 (i := 144) (by decide +kernel)) rfl)
theorem lL_96 : ML RL 96 mX7_crowd := Or.inl (Gs_of (tb_6 (i := 24) (by decide +kernel)) rfl)
theorem lL_97 : ML RL 97 mX6_see := Or.inl (Gs_of (tb_3 (i := 155) (by decide +kernel)) rfl)
theorem lL_100 : ML RL 100 mX7_see := Or.inl (Gs_of (tb_6 (i := 32) (by decide +kernel)) rfl)
theorem lL_101 : ML RL 101 mX6_can := Or.inl (Gs_of (tb_3 (i := 163) (by decide +kernel)) rfl)
theorem lL_104 : ML RL 104 mX7_can := Or.inl (Gs_of (tb_6 (i := 40) (by decide +kernel)) rfl)
theorem lL_105 : ML RL 105 mX6_odds := Or.inl (Gs_of (tb_3 (i := 173) (by decide +kernel)) rfl)
theorem lL_109 : ML RL 109 mX7_odds := Or.inl (Gs_of (tb_6 (i := 48) (by decide +kernel)) rfl)
theorem lL_110 : ML RL 110 mX6_mean := Or.inl (Gs_of (tb_3 (i := 181) (by decide +kernel)) rfl)
theorem lL_113 : ML RL 113 mX7_mean := Or.inl (Gs_of (tb_6 (i := 61) (by decide +kernel)) rfl)
theorem lL_114 : ML RL 114 mX6_dance := Or.inl (Gs_of (tb_3 (i := 185) (by decide +kernel)) rfl)
theorem lL_117 : ML RL 117 mX7_dance := Or.inl (Gs_of (tb_6 (i := 65) (by decide +kernel)) rfl)
theorem lL_118 : ML RL 118 mX6_danced := Or.inl (Gs_of (tb_3 (i := 193) (by decide +kernel)) rfl)
theorem lL_121 : ML RL 121 mX7_danced := Or.inl (Gs_of (tb_6 (i := 69) (by decide +kernel)) rfl)
theorem lL_122 : ML RL 122 mX6_book := Or.inl (Gs_of (tb_3 (i := 205) (by decide +kernel)) rfl)
theorem lL_125 : ML RL 125 mX7_book := Or.inl (Gs_of (tb_6 (i := 73) (by decide +kernel)) rfl)
theorem lL_126 : ML RL 126 mX6_looked := Or.inl (Gs_of (tb_3 (i := 213) (by decide +kernel)) rfl)
theorem lL_129 : ML RL 129 mX7_looked := Or.inl (Gs_of (tb_6 (i := 77) (by decide +kernel)) rfl)
theorem lL_130 : ML RL 130 mX6_judge := Or.inl (Gs_of (tb_3 (i := 221) (by decide +kernel)) rfl)
theorem lL_133 : ML RL 133 mX7_judge := Or.inl (Gs_of (tb_6 (i := 81) (by decide +kernel)) rfl)
theorem lL_134 : ML RL 134 mX6_image := Or.inl (Gs_of (tb_3 (i := 228) (by decide +kernel)) rfl)
theorem lL_137 : ML RL 137 mX7_image := Or.inl (Gs_of (tb_6 (i := 89) (by decide +kernel)) rfl)
theorem lL_138 : ML RL 138 mX6_undo := Or.inl (Gs_of (tb_3 (i := 237) (by decide +kernel)) rfl)
theorem lL_141 : ML RL 141 mX7_undo := Or.inl (Gs_of (tb_6 (i := 93) (by decide +kernel)) rfl)
theorem lL_142 : ML RL 142 mX6_act := Or.inl (Gs_of (tb_4 (i := 1) (by decide +kernel)) rfl)
theorem lL_145 : ML RL 145 mX7_act := Or.inl (Gs_of (tb_6 (i := 97) (by decide +kernel)) rfl)
theorem lL_146 : ML RL 146 mX6_trace := Or.inl (Gs_of (tb_4 (i := 29) (by decide +kernel)) rfl)
theorem lL_149 : ML RL 149 mX7_trace := Or.inl (Gs_of (tb_6 (i := 133) (by decide +kernel)) rfl)
theorem lL_150 : ML RL 150 mX6_taken := Or.inl (Gs_of (tb_4 (i := 33) (by decide +kernel)) rfl)
theorem lL_153 : ML RL 153 mX7_taken := Or.inl (Gs_of (tb_6 (i := 137) (by decide +kernel)) rfl)
theorem lL_154 : ML RL 154 mX6_count := Or.inl (Gs_of (tb_4 (i := 38) (by decide +kernel)) rfl)
theorem lL_157 : ML RL 157 mX7_count := Or.inl (Gs_of (tb_6 (i := 141) (by decide +kernel)) rfl)
theorem lL_158 : ML RL 158 mX6_tape := Or.inl (Gs_of (tb_4 (i := 42) (by decide +kernel)) rfl)
theorem lL_161 : ML RL 161 mX7_tape := Or.inl (Gs_of (tb_6 (i := 145) (by decide +kernel)) rfl)
theorem lL_164 : ML RL 164 mX6_item := Or.inl (Gs_of (tb_4 (i := 55) (by decide +kernel)) rfl)
theorem lL_168 : ML RL 168 mX7_item := Or.inl (Gs_of (tb_6 (i := 149) (by decide +kernel)) rfl)
theorem lL_169 : ML RL 169 mX6_read := Or.inl (Gs_of (tb_4 (i := 63) (by decide +kernel)) rfl)
theorem lL_172 : ML RL 172 mX7_read := Or.inl (Gs_of (tb_6 (i := 157) (by decide +kernel)) rfl)
theorem lL_173 : ML RL 173 mX6_shift := Or.inl (Gs_of (tb_4 (i := 67) (by decide +kernel)) rfl)
theorem lL_177 : ML RL 177 mX7_shift := Or.inl (Gs_of (tb_6 (i := 161) (by decide +kernel)) rfl)
theorem lX7_206 : ML RX7 206 mX7_in := Or.inl (Gs_of (tb_5 (i := 40) (by decide +kernel)) rfl)
theorem lX7_210 : ML RX7 210 mX7_wide := Or.inl (Gs_of (tb_5 (i := 44) (by decide +kernel)) rfl)
theorem lX7_214 : ML RX7 214 mX7_laysAll := Or.inl (Gs_of (tb_5 (i := 60) (by decide +kernel)) rfl)
theorem lX7_218 : ML RX7 218 mX7_isDancer := Or.inl (Gs_of (tb_5 (i := 68) (by decide +kernel)) rfl)
theorem lX7_222 : ML RX7 222 mX7_next := Or.inl (Gs_of (tb_5 (i := 100) (by decide +kernel)) rfl)
theorem lX7_225 : ML RX7 225 mX7_takes := Or.inl (Gs_of (tb_5 (i := 108) (by decide +kernel)) rfl)
theorem lX7_228 : ML RX7 228 mX7_isDigit := Or.inl (Gs_of (tb_5 (i := 116) (by decide +kernel)) rfl)
theorem lX7_232 : ML RX7 232 mX7_emits := Or.inl (Gs_of (tb_5 (i := 132) (by decide +kernel)) rfl)
theorem lX7_236 : ML RX7 236 mX7_place := Or.inl (Gs_of (tb_5 (i := 128) (by decide +kernel)) rfl)
theorem lX7_240 : ML RX7 240 mX7_takesNumber := Or.inl (Gs_of (tb_5 (i := 112) (by decide +kernel)) rfl)
theorem lX7_243 : ML RX7 243 mX7_whole := Or.inl (Gs_of (tb_5 (i := 136) (by decide +kernel)) rfl)
theorem lX7_246 : ML RX7 246 mX7_takesTest := Or.inl (Gs_of (tb_5 (i := 124) (by decide +kernel)) rfl)
theorem lX7_249 : ML RX7 249 mX7_settle := Or.inl (Gs_of (tb_5 (i := 140) (by decide +kernel)) rfl)
theorem lX7_252 : ML RX7 252 mX7_takesWord := Or.inl (Gs_of (tb_5 (i := 104) (by decide +kernel)) rfl)
theorem lX7_256 : ML RX7 256 mX7_takesHead := Or.inl (Gs_of (tb_5 (i := 96) (by decide +kernel)) rfl)
theorem lX7_259 : ML RX7 259 mX7_takesE := Or.inl (Gs_of (tb_5 (i := 120) (by decide +kernel)) rfl)
theorem lX7_262 : ML RX7 262 mX7_takesClause := Or.inl (Gs_of (tb_5 (i := 92) (by decide +kernel)) rfl)
theorem lX7_265 : ML RX7 265 mX7_goesText := Or.inl (Gs_of (tb_5 (i := 88) (by decide +kernel)) rfl)
theorem lX7_268 : ML RX7 268 mX7_firstClause := Or.inl (Gs_of (tb_5 (i := 52) (by decide +kernel)) rfl)
theorem lX7_271 : ML RX7 271 mX7_behindClauses := Or.inl (Gs_of (tb_5 (i := 56) (by decide +kernel)) rfl)
theorem lX7_274 : ML RX7 274 mX7_lastOf := Or.inl (Gs_of (tb_5 (i := 48) (by decide +kernel)) rfl)
theorem lX7_278 : ML RX7 278 mX7_factOf := Or.inl (Gs_of (tb_5 (i := 156) (by decide +kernel)) rfl)
theorem lX7_281 : ML RX7 281 mX7_holds := Or.inl (Gs_of (tb_5 (i := 152) (by decide +kernel)) rfl)
theorem lX7_284 : ML RX7 284 mX7_step := Or.inl (Gs_of (tb_5 (i := 148) (by decide +kernel)) rfl)
theorem lX7_287 : ML RX7 287 mX7_round := Or.inl (Gs_of (tb_5 (i := 164) (by decide +kernel)) rfl)
theorem lX7_290 : ML RX7 290 mX7_goes := Or.inl (Gs_of (tb_5 (i := 160) (by decide +kernel)) rfl)
theorem lX7_293 : ML RX7 293 mX7_skip := Or.inl (Gs_of (tb_5 (i := 172) (by decide +kernel)) rfl)
theorem lX7_296 : ML RX7 296 mX7_many := Or.inl (Gs_of (tb_5 (i := 176) (by decide +kernel)) rfl)
theorem lX7_299 : ML RX7 299 mX7_goBeat := Or.inl (Gs_of (tb_5 (i := 192) (by decide +kernel)) rfl)
theorem lX7_303 : ML RX7 303 mX7_isBeats := Or.inl (Gs_of (tb_5 (i := 184) (by decide +kernel)) rfl)
theorem lX7_306 : ML RX7 306 mX7_go := Or.inl (Gs_of (tb_5 (i := 188) (by decide +kernel)) rfl)
theorem lX7_309 : ML RX7 309 mX7_save := Or.inl (Gs_of (tb_5 (i := 200) (by decide +kernel)) rfl)
theorem lX7_312 : ML RX7 312 mX7_putBack := Or.inl (Gs_of (tb_5 (i := 204) (by decide +kernel)) rfl)
theorem lX7_315 : ML RX7 315 mX7_isAsKept := Or.inl (Gs_of (tb_5 (i := 212) (by decide +kernel)) rfl)
theorem lX7_318 : ML RX7 318 mX7_togetherBy := Or.inl (Gs_of (tb_5 (i := 220) (by decide +kernel)) rfl)
theorem lX7_321 : ML RX7 321 mX7_isStill := Or.inl (Gs_of (tb_5 (i := 228) (by decide +kernel)) rfl)
theorem lX7_324 : ML RX7 324 mX7_apart := Or.inl (Gs_of (tb_6 (i := 0) (by decide +kernel)) rfl)
theorem lX7_327 : ML RX7 327 mX7_isAlone := Or.inl (Gs_of (tb_6 (i := 12) (by decide +kernel)) rfl)
theorem lX7_330 : ML RX7 330 mX7_counts := Or.inl (Gs_of (tb_6 (i := 28) (by decide +kernel)) rfl)
theorem lX7_333 : ML RX7 333 mX7_isPlace := Or.inl (Gs_of (tb_6 (i := 36) (by decide +kernel)) rfl)
theorem lX7_336 : ML RX7 336 mX7_isSeen := Or.inl (Gs_of (tb_6 (i := 44) (by decide +kernel)) rfl)
theorem lX7_339 : ML RX7 339 mX7_divisor := Or.inl (Gs_of (tb_6 (i := 57) (by decide +kernel)) rfl)
theorem lX7_344 : ML RX7 344 mX7_lowest := Or.inl (Gs_of (tb_6 (i := 53) (by decide +kernel)) rfl)
theorem lX7_348 : ML RX7 348 mX7_isTape := Or.inl (Gs_of (tb_6 (i := 85) (by decide +kernel)) rfl)
theorem lX7_351 : ML RX7 351 mX7_body := Or.inl (Gs_of (tb_6 (i := 105) (by decide +kernel)) rfl)
theorem lX7_354 : ML RX7 354 mX7_dancerSteps := Or.inl (Gs_of (tb_6 (i := 109) (by decide +kernel)) rfl)
theorem lX7_357 : ML RX7 357 mX7_stepsAct := Or.inl (Gs_of (tb_6 (i := 101) (by decide +kernel)) rfl)
theorem lX7_360 : ML RX7 360 mX7_dancerTurns := Or.inl (Gs_of (tb_6 (i := 121) (by decide +kernel)) rfl)
theorem lX7_363 : ML RX7 363 mX7_lateTurns := Or.inl (Gs_of (tb_6 (i := 117) (by decide +kernel)) rfl)
theorem lX7_366 : ML RX7 366 mX7_turnsAct := Or.inl (Gs_of (tb_6 (i := 113) (by decide +kernel)) rfl)
theorem lX7_369 : ML RX7 369 mX7_dancerTells := Or.inl (Gs_of (tb_6 (i := 129) (by decide +kernel)) rfl)
theorem lX7_372 : ML RX7 372 mX7_tellsAct := Or.inl (Gs_of (tb_6 (i := 125) (by decide +kernel)) rfl)
theorem lX7_375 : ML RX7 375 mX7_narrow := Or.inl (Gs_of (tb_6 (i := 153) (by decide +kernel)) rfl)
theorem lJ0_335 : ML RJ0 335 mJ0_coder_7d493 := Or.inl (Gs_of (tb_2 (i := 122) (by decide +kernel)) rfl)
theorem lJ0_492 : ML RJ0 492 mJ0_isLatin1_aae02 := Or.inl (Gs_of (tb_2 (i := 132) (by decide +kernel)) rfl)
theorem lJ0_495 : ML RJ0 495 mJ1_charAt_3b067 := Or.inl (Gs_of (tb_2 (i := 136) (by decide +kernel)) rfl)
theorem lJ0_498 : ML RJ0 498 mJ2_charAt_3b067 := Or.inl (Gs_of (tb_2 (i := 147) (by decide +kernel)) rfl)
theorem lJ0_505 : ML RJ0 505 mJ0_length_8abf5 := Or.inl (Gs_of (tb_2 (i := 209) (by decide +kernel)) rfl)
theorem lJ0_633 : ML RJ0 633 mJ0_indexOf_7cf53 := Or.inl (Gs_of (tb_2 (i := 205) (by decide +kernel)) rfl)
theorem lJ0_637 : ML RJ0 637 mJ1_indexOf_4cfef := Or.inl (Gs_of (tb_2 (i := 210) (by decide +kernel)) rfl)
theorem lJ0_640 : ML RJ0 640 mJ2_indexOf_4cfef := Or.inl (Gs_of (tb_2 (i := 221) (by decide +kernel)) rfl)
theorem lJ0_1059 : ML RJ0 1059 mJ3_checkIndex_8e157 := Or.inl (Gs_of (tb_2 (i := 144) (by decide +kernel)) rfl)
theorem lJ0_1062 : ML RJ0 1062 mJ3_checkFromToIndex_8c36e := Or.inl (Gs_of (tb_2 (i := 236) (by decide +kernel)) rfl)
theorem lJ1_9 : ML RJ1 9 mJ0_checkIndex_df160 := Or.inl (Gs_of (tb_2 (i := 139) (by decide +kernel)) rfl)
theorem lJ1_38 : ML RJ1 38 mJ9_min_7cf53 := Or.inl (Gs_of (tb_2 (i := 217) (by decide +kernel)) rfl)
theorem lJ1_88 : ML RJ1 88 mJ1_canEncode_9a6ad := Or.inl (Gs_of (tb_2 (i := 213) (by decide +kernel)) rfl)
theorem lJ1_92 : ML RJ1 92 mJ9_max_7cf53 := Or.inl (Gs_of (tb_2 (i := 216) (by decide +kernel)) rfl)
theorem lJ1_95 : ML RJ1 95 mJ1_indexOfChar_4cfef := Or.inl (Gs_of (tb_2 (i := 218) (by decide +kernel)) rfl)
theorem lJ2_48 : ML RJ2 48 mJ2_length_9d52b := Or.inl (Gs_of (tb_2 (i := 153) (by decide +kernel)) rfl)
theorem lJ2_67 : ML RJ2 67 mJ2_checkIndex_2214a := Or.inl (Gs_of (tb_2 (i := 150) (by decide +kernel)) rfl)
theorem lJ2_71 : ML RJ2 71 mJ2_getChar_3b067 := Or.inl (Gs_of (tb_2 (i := 157) (by decide +kernel)) rfl)
theorem lJ2_96 : ML RJ2 96 mJ2_checkBoundsBeginEnd_d044e := Or.inl (Gs_of (tb_2 (i := 230) (by decide +kernel)) rfl)
theorem lJ2_157 : ML RJ2 157 mJ11_highSurrogate_5068e := Or.inl (Gs_of (tb_3 (i := 8) (by decide +kernel)) rfl)
theorem lJ2_161 : ML RJ2 161 mJ11_lowSurrogate_5068e := Or.inl (Gs_of (tb_3 (i := 12) (by decide +kernel)) rfl)
theorem lJ2_164 : ML RJ2 164 mJ11_isValidCodePoint_9a6ad := Or.inl (Gs_of (tb_3 (i := 5) (by decide +kernel)) rfl)
theorem lJ2_183 : ML RJ2 183 mJ9_min_7cf53 := Or.inl (Gs_of (tb_2 (i := 225) (by decide +kernel)) rfl)
theorem lJ2_224 : ML RJ2 224 mJ9_max_7cf53 := Or.inl (Gs_of (tb_2 (i := 224) (by decide +kernel)) rfl)
theorem lJ2_228 : ML RJ2 228 mJ2_indexOfChar_4cfef := Or.inl (Gs_of (tb_2 (i := 227) (by decide +kernel)) rfl)
theorem lJ2_232 : ML RJ2 232 mJ2_indexOfSupplementary_4cfef := Or.inl (Gs_of (tb_3 (i := 2) (by decide +kernel)) rfl)
theorem lJ2_241 : ML RJ2 241 mJ0_checkBoundsBeginEnd_23922 := Or.inl (Gs_of (tb_2 (i := 233) (by decide +kernel)) rfl)
theorem lJ2_244 : ML RJ2 244 mJ2_indexOfCharUnsafe_4cfef := Or.inl (Gs_of (tb_2 (i := 239) (by decide +kernel)) rfl)
theorem lJ2_414 : ML RJ2 414 mJ0_checkIndex_df160 := Or.inl (Gs_of (tb_2 (i := 156) (by decide +kernel)) rfl)
