/-! ===== facts by the tables: methods, links, fields, classes, texts ===== -/
theorem inT1 {w : Cond} (h : w ∈ tables_1_1) : w ∈ lw_tbl := by
  unfold lw_tbl tables_1
  exact List.mem_append_right _ (List.mem_append_left _ h)
theorem inT2 {w : Cond} (h : w ∈ tables_1_2) : w ∈ lw_tbl := by
  unfold lw_tbl tables_1
  exact List.mem_append_right _ (List.mem_append_right _ (List.mem_append_left _ h))
theorem inT3 {w : Cond} (h : w ∈ tables_1_3) : w ∈ lw_tbl := by
  unfold lw_tbl tables_1
  exact List.mem_append_right _ (List.mem_append_right _ (List.mem_append_right _ (List.mem_append_left _ h)))
theorem inT4 {w : Cond} (h : w ∈ tables_1_4) : w ∈ lw_tbl := by
  unfold lw_tbl tables_1
  exact List.mem_append_right _ (List.mem_append_right _ (List.mem_append_right _ (List.mem_append_right _ (List.mem_append_left _ h))))
theorem inT5 {w : Cond} (h : w ∈ tables_1_5) : w ∈ lw_tbl := by
  unfold lw_tbl tables_1
  exact List.mem_append_right _ (List.mem_append_right _ (List.mem_append_right _ (List.mem_append_right _ (List.mem_append_right _ (List.mem_append_left _ h)))))
theorem inT6 {w : Cond} (h : w ∈ tables_1_6) : w ∈ lw_tbl := by
  unfold lw_tbl tables_1
  exact List.mem_append_right _ (List.mem_append_right _ (List.mem_append_right _ (List.mem_append_right _ (List.mem_append_right _ (List.mem_append_right _ (List.mem_append_left _ h))))))
theorem inT7 {w : Cond} (h : w ∈ tables_1_7) : w ∈ lw_tbl := by
  unfold lw_tbl tables_1
  exact List.mem_append_right _ (List.mem_append_right _ (List.mem_append_right _ (List.mem_append_right _ (List.mem_append_right _ (List.mem_append_right _ (List.mem_append_right _ (h)))))))
theorem inW_RJx4a65c : ∀ w ∈ u_ws RJx4a65c TJx4a65c 3, w ∈ kW0 := by
  have h : (u_ws RJx4a65c TJx4a65c 3).all (fun w => decide (w ∈ lw_tbl) && goodWord w) = true := by decide +kernel
  intro w hw
  have h1 := List.all_eq_true.mp h w hw
  simp only [Bool.and_eq_true, decide_eq_true_eq] at h1
  exact kW0_in h1.1 h1.2
theorem inW_RX0 : ∀ w ∈ u_ws RX0 TX0 4, w ∈ kW0 := by
  have h : (u_ws RX0 TX0 4).all (fun w => decide (w ∈ lw_tbl) && goodWord w) = true := by decide +kernel
  intro w hw
  have h1 := List.all_eq_true.mp h w hw
  simp only [Bool.and_eq_true, decide_eq_true_eq] at h1
  exact kW0_in h1.1 h1.2
theorem inW_RX1 : ∀ w ∈ u_ws RX1 TX1 1, w ∈ kW0 := by
  have h : (u_ws RX1 TX1 1).all (fun w => decide (w ∈ lw_tbl) && goodWord w) = true := by decide +kernel
  intro w hw
  have h1 := List.all_eq_true.mp h w hw
  simp only [Bool.and_eq_true, decide_eq_true_eq] at h1
  exact kW0_in h1.1 h1.2
theorem inW_RX2 : ∀ w ∈ u_ws RX2 TX2 6, w ∈ kW0 := by
  have h : (u_ws RX2 TX2 6).all (fun w => decide (w ∈ lw_tbl) && goodWord w) = true := by decide +kernel
  intro w hw
  have h1 := List.all_eq_true.mp h w hw
  simp only [Bool.and_eq_true, decide_eq_true_eq] at h1
  exact kW0_in h1.1 h1.2
theorem inW_RX3 : ∀ w ∈ u_ws RX3 TX3 3, w ∈ kW0 := by
  have h : (u_ws RX3 TX3 3).all (fun w => decide (w ∈ lw_tbl) && goodWord w) = true := by decide +kernel
  intro w hw
  have h1 := List.all_eq_true.mp h w hw
  simp only [Bool.and_eq_true, decide_eq_true_eq] at h1
  exact kW0_in h1.1 h1.2
theorem inW_RX4 : ∀ w ∈ u_ws RX4 TX4 3, w ∈ kW0 := by
  have h : (u_ws RX4 TX4 3).all (fun w => decide (w ∈ lw_tbl) && goodWord w) = true := by decide +kernel
  intro w hw
  have h1 := List.all_eq_true.mp h w hw
  simp only [Bool.and_eq_true, decide_eq_true_eq] at h1
  exact kW0_in h1.1 h1.2
theorem inW_RX5 : ∀ w ∈ u_ws RX5 TX5 7, w ∈ kW0 := by
  have h : (u_ws RX5 TX5 7).all (fun w => decide (w ∈ lw_tbl) && goodWord w) = true := by decide +kernel
  intro w hw
  have h1 := List.all_eq_true.mp h w hw
  simp only [Bool.and_eq_true, decide_eq_true_eq] at h1
  exact kW0_in h1.1 h1.2
theorem inW_RX6 : ∀ w ∈ u_ws RX6 TX6 5, w ∈ kW0 := by
  have h : (u_ws RX6 TX6 5).all (fun w => decide (w ∈ lw_tbl) && goodWord w) = true := by decide +kernel
  intro w hw
  have h1 := List.all_eq_true.mp h w hw
  simp only [Bool.and_eq_true, decide_eq_true_eq] at h1
  exact kW0_in h1.1 h1.2
abbrev m_X0_init : kMR := (yX0_init, cX0_init, 4, (none), [])
theorem o_X0_init : kOkI m_X0_init 3 := ⟨rfl, rfl, ⟨kW0_in (inT3 (List.mem_of_getElem? (i := 66) rfl)) rfl, kW0_in (inT1 (List.mem_of_getElem? (i := 24) rfl)) rfl, ⟨by decide, by decide⟩, by decide +kernel⟩, rfl, kW0_in (inT3 (List.mem_of_getElem? (i := 65) rfl)) rfl⟩
abbrev m_X1_init : kMR := (yX1_init, cX1_init, 1, (none), [])
theorem o_X1_init : kOkI m_X1_init 0 := ⟨rfl, rfl, ⟨kW0_in (inT1 (List.mem_of_getElem? (i := 67) rfl)) rfl, kW0_in (inT1 (List.mem_of_getElem? (i := 3) rfl)) rfl, ⟨by decide, by decide⟩, by decide +kernel⟩, rfl, kW0_in (inT1 (List.mem_of_getElem? (i := 66) rfl)) rfl⟩
abbrev m_X1_take : kMR := (yX1_take, cX1_take, 3, (none), [])
theorem o_X1_take : kOkV m_X1_take 1 := ⟨rfl, ⟨kW0_in (inT3 (List.mem_of_getElem? (i := 94) rfl)) rfl, kW0_in (inT1 (List.mem_of_getElem? (i := 3) rfl)) rfl, ⟨by decide, by decide⟩, by decide +kernel⟩, kW0_in (inT3 (List.mem_of_getElem? (i := 92) rfl)) rfl, kW0_in (inT3 (List.mem_of_getElem? (i := 93) rfl)) rfl⟩
abbrev m_X1_drop : kMR := (yX1_drop, cX1_drop, 3, (none), [])
theorem o_X1_drop : kOkV m_X1_drop 1 := ⟨rfl, ⟨kW0_in (inT4 (List.mem_of_getElem? (i := 170) rfl)) rfl, kW0_in (inT1 (List.mem_of_getElem? (i := 3) rfl)) rfl, ⟨by decide, by decide⟩, by decide +kernel⟩, kW0_in (inT4 (List.mem_of_getElem? (i := 168) rfl)) rfl, kW0_in (inT4 (List.mem_of_getElem? (i := 169) rfl)) rfl⟩
abbrev m_X2_init : kMR := (yX2_init, cX2_init, 4, (none), [])
theorem o_X2_init : kOkI m_X2_init 3 := ⟨rfl, rfl, ⟨kW0_in (inT2 (List.mem_of_getElem? (i := 145) rfl)) rfl, kW0_in (inT1 (List.mem_of_getElem? (i := 13) rfl)) rfl, ⟨by decide, by decide⟩, by decide +kernel⟩, rfl, kW0_in (inT2 (List.mem_of_getElem? (i := 144) rfl)) rfl⟩
abbrev m_X2_expectedPeople : kMR := (yX2_expectedPeople, cX2_expectedPeople, 1, (some .int), [])
theorem o_X2_expectedPeople : kOkV m_X2_expectedPeople 0 := ⟨rfl, ⟨kW0_in (inT1 (List.mem_of_getElem? (i := 165) rfl)) rfl, kW0_in (inT1 (List.mem_of_getElem? (i := 13) rfl)) rfl, ⟨by decide, by decide⟩, by decide +kernel⟩, kW0_in (inT1 (List.mem_of_getElem? (i := 163) rfl)) rfl, kW0_in (inT1 (List.mem_of_getElem? (i := 164) rfl)) rfl⟩
abbrev m_X2_expectedCount : kMR := (yX2_expectedCount, cX2_expectedCount, 1, (some .int), [])
theorem o_X2_expectedCount : kOkV m_X2_expectedCount 0 := ⟨rfl, ⟨kW0_in (inT1 (List.mem_of_getElem? (i := 161) rfl)) rfl, kW0_in (inT1 (List.mem_of_getElem? (i := 13) rfl)) rfl, ⟨by decide, by decide⟩, by decide +kernel⟩, kW0_in (inT1 (List.mem_of_getElem? (i := 159) rfl)) rfl, kW0_in (inT1 (List.mem_of_getElem? (i := 160) rfl)) rfl⟩
abbrev m_X2_expects : kMR := (yX2_expects, cX2_expects, 2, (some .boolean), [])
theorem o_X2_expects : kOkV m_X2_expects 1 := ⟨rfl, ⟨kW0_in (inT2 (List.mem_of_getElem? (i := 51) rfl)) rfl, kW0_in (inT1 (List.mem_of_getElem? (i := 13) rfl)) rfl, ⟨by decide, by decide⟩, by decide +kernel⟩, kW0_in (inT2 (List.mem_of_getElem? (i := 49) rfl)) rfl, kW0_in (inT2 (List.mem_of_getElem? (i := 50) rfl)) rfl⟩
abbrev m_X2_answerFrom : kMR := (yX2_answerFrom, cX2_answerFrom, 2, (some .char), [])
theorem o_X2_answerFrom : kOkV m_X2_answerFrom 1 := ⟨rfl, ⟨kW0_in (inT4 (List.mem_of_getElem? (i := 192) rfl)) rfl, kW0_in (inT1 (List.mem_of_getElem? (i := 13) rfl)) rfl, ⟨by decide, by decide⟩, by decide +kernel⟩, kW0_in (inT4 (List.mem_of_getElem? (i := 190) rfl)) rfl, kW0_in (inT4 (List.mem_of_getElem? (i := 191) rfl)) rfl⟩
abbrev m_X2_note : kMR := (yX2_note, cX2_note, 4, (none), [])
theorem o_X2_note : kOkV m_X2_note 2 := ⟨rfl, ⟨kW0_in (inT4 (List.mem_of_getElem? (i := 206) rfl)) rfl, kW0_in (inT1 (List.mem_of_getElem? (i := 13) rfl)) rfl, ⟨by decide, by decide⟩, by decide +kernel⟩, kW0_in (inT4 (List.mem_of_getElem? (i := 204) rfl)) rfl, kW0_in (inT4 (List.mem_of_getElem? (i := 205) rfl)) rfl⟩
abbrev m_X2_standingDates : kMR := (yX2_standingDates, cX2_standingDates, 3, (some .int), [])
theorem o_X2_standingDates : kOkV m_X2_standingDates 0 := ⟨rfl, ⟨kW0_in (inT4 (List.mem_of_getElem? (i := 237) rfl)) rfl, kW0_in (inT1 (List.mem_of_getElem? (i := 13) rfl)) rfl, ⟨by decide, by decide⟩, by decide +kernel⟩, kW0_in (inT4 (List.mem_of_getElem? (i := 235) rfl)) rfl, kW0_in (inT4 (List.mem_of_getElem? (i := 236) rfl)) rfl⟩
abbrev m_X2_standingTimes : kMR := (yX2_standingTimes, cX2_standingTimes, 4, (some .int), [])
theorem o_X2_standingTimes : kOkV m_X2_standingTimes 0 := ⟨rfl, ⟨kW0_in (inT1 (List.mem_of_getElem? (i := 154) rfl)) rfl, kW0_in (inT1 (List.mem_of_getElem? (i := 13) rfl)) rfl, ⟨by decide, by decide⟩, by decide +kernel⟩, kW0_in (inT1 (List.mem_of_getElem? (i := 152) rfl)) rfl, kW0_in (inT1 (List.mem_of_getElem? (i := 153) rfl)) rfl⟩
abbrev m_X3_init : kMR := (yX3_init, cX3_init, 4, (none), [])
theorem o_X3_init : kOkI m_X3_init 3 := ⟨rfl, rfl, ⟨kW0_in (inT1 (List.mem_of_getElem? (i := 47) rfl)) rfl, kW0_in (inT1 (List.mem_of_getElem? (i := 2) rfl)) rfl, ⟨by decide, by decide⟩, by decide +kernel⟩, rfl, kW0_in (inT1 (List.mem_of_getElem? (i := 46) rfl)) rfl⟩
abbrev m_X4_init : kMR := (yX4_init, cX4_init, 4, (none), [])
theorem o_X4_init : kOkI m_X4_init 3 := ⟨rfl, rfl, ⟨kW0_in (inT2 (List.mem_of_getElem? (i := 178) rfl)) rfl, kW0_in (inT1 (List.mem_of_getElem? (i := 14) rfl)) rfl, ⟨by decide, by decide⟩, by decide +kernel⟩, rfl, kW0_in (inT2 (List.mem_of_getElem? (i := 177) rfl)) rfl⟩
abbrev m_X4_end : kMR := (yX4_end, cX4_end, 1, (some .int), [])
theorem o_X4_end : kOkV m_X4_end 0 := ⟨rfl, ⟨kW0_in (inT2 (List.mem_of_getElem? (i := 31) rfl)) rfl, kW0_in (inT1 (List.mem_of_getElem? (i := 14) rfl)) rfl, ⟨by decide, by decide⟩, by decide +kernel⟩, kW0_in (inT2 (List.mem_of_getElem? (i := 29) rfl)) rfl, kW0_in (inT2 (List.mem_of_getElem? (i := 30) rfl)) rfl⟩
abbrev m_X4_holds : kMR := (yX4_holds, cX4_holds, 2, (some .boolean), [])
theorem o_X4_holds : kOkV m_X4_holds 1 := ⟨rfl, ⟨kW0_in (inT2 (List.mem_of_getElem? (i := 69) rfl)) rfl, kW0_in (inT1 (List.mem_of_getElem? (i := 14) rfl)) rfl, ⟨by decide, by decide⟩, by decide +kernel⟩, kW0_in (inT2 (List.mem_of_getElem? (i := 67) rfl)) rfl, kW0_in (inT2 (List.mem_of_getElem? (i := 68) rfl)) rfl⟩
abbrev m_X4_timesBetween : kMR := (yX4_timesBetween, cX4_timesBetween, 2, (some .int), [])
theorem o_X4_timesBetween : kOkV m_X4_timesBetween 1 := ⟨rfl, ⟨kW0_in (inT2 (List.mem_of_getElem? (i := 27) rfl)) rfl, kW0_in (inT1 (List.mem_of_getElem? (i := 14) rfl)) rfl, ⟨by decide, by decide⟩, by decide +kernel⟩, kW0_in (inT2 (List.mem_of_getElem? (i := 25) rfl)) rfl, kW0_in (inT2 (List.mem_of_getElem? (i := 26) rfl)) rfl⟩
abbrev m_X5_init : kMR := (yX5_init, cX5_init, 2, (none), [])
theorem o_X5_init : kOkI m_X5_init 0 := ⟨rfl, rfl, ⟨kW0_in (inT1 (List.mem_of_getElem? (i := 38) rfl)) rfl, kW0_in (inT1 (List.mem_of_getElem? (i := 1) rfl)) rfl, ⟨by decide, by decide⟩, by decide +kernel⟩, rfl, kW0_in (inT1 (List.mem_of_getElem? (i := 37) rfl)) rfl⟩
abbrev m_X5_setRoom : kMR := (yX5_setRoom, cX5_setRoom, 6, (some .int), [])
theorem o_X5_setRoom : kOkV m_X5_setRoom 3 := ⟨rfl, ⟨kW0_in (inT2 (List.mem_of_getElem? (i := 77) rfl)) rfl, kW0_in (inT1 (List.mem_of_getElem? (i := 1) rfl)) rfl, ⟨by decide, by decide⟩, by decide +kernel⟩, kW0_in (inT2 (List.mem_of_getElem? (i := 75) rfl)) rfl, kW0_in (inT2 (List.mem_of_getElem? (i := 76) rfl)) rfl⟩
abbrev m_X5_setGap : kMR := (yX5_setGap, cX5_setGap, 3, (some .int), [])
theorem o_X5_setGap : kOkV m_X5_setGap 1 := ⟨rfl, ⟨kW0_in (inT2 (List.mem_of_getElem? (i := 93) rfl)) rfl, kW0_in (inT1 (List.mem_of_getElem? (i := 1) rfl)) rfl, ⟨by decide, by decide⟩, by decide +kernel⟩, kW0_in (inT2 (List.mem_of_getElem? (i := 91) rfl)) rfl, kW0_in (inT2 (List.mem_of_getElem? (i := 92) rfl)) rfl⟩
abbrev m_X5_seatsOf : kMR := (yX5_seatsOf, cX5_seatsOf, 2, (some .int), [])
theorem o_X5_seatsOf : kOkV m_X5_seatsOf 1 := ⟨rfl, ⟨kW0_in (inT2 (List.mem_of_getElem? (i := 100) rfl)) rfl, kW0_in (inT1 (List.mem_of_getElem? (i := 1) rfl)) rfl, ⟨by decide, by decide⟩, by decide +kernel⟩, kW0_in (inT2 (List.mem_of_getElem? (i := 98) rfl)) rfl, kW0_in (inT2 (List.mem_of_getElem? (i := 99) rfl)) rfl⟩
abbrev m_X5_houseOf : kMR := (yX5_houseOf, cX5_houseOf, 2, (some .int), [])
theorem o_X5_houseOf : kOkV m_X5_houseOf 1 := ⟨rfl, ⟨kW0_in (inT2 (List.mem_of_getElem? (i := 107) rfl)) rfl, kW0_in (inT1 (List.mem_of_getElem? (i := 1) rfl)) rfl, ⟨by decide, by decide⟩, by decide +kernel⟩, kW0_in (inT2 (List.mem_of_getElem? (i := 105) rfl)) rfl, kW0_in (inT2 (List.mem_of_getElem? (i := 106) rfl)) rfl⟩
abbrev m_X5_ask : kMR := (yX5_ask, cX5_ask, 8, (some .int), [])
theorem o_X5_ask : kOkV m_X5_ask 5 := ⟨rfl, ⟨kW0_in (inT2 (List.mem_of_getElem? (i := 116) rfl)) rfl, kW0_in (inT1 (List.mem_of_getElem? (i := 1) rfl)) rfl, ⟨by decide, by decide⟩, by decide +kernel⟩, kW0_in (inT2 (List.mem_of_getElem? (i := 114) rfl)) rfl, kW0_in (inT2 (List.mem_of_getElem? (i := 115) rfl)) rfl⟩
abbrev m_X5_extend : kMR := (yX5_extend, cX5_extend, 8, (some .int), [])
theorem o_X5_extend : kOkV m_X5_extend 3 := ⟨rfl, ⟨kW0_in (inT4 (List.mem_of_getElem? (i := 124) rfl)) rfl, kW0_in (inT1 (List.mem_of_getElem? (i := 1) rfl)) rfl, ⟨by decide, by decide⟩, by decide +kernel⟩, kW0_in (inT4 (List.mem_of_getElem? (i := 122) rfl)) rfl, kW0_in (inT4 (List.mem_of_getElem? (i := 123) rfl)) rfl⟩
abbrev m_X5_remove : kMR := (yX5_remove, cX5_remove, 5, (some .int), [])
theorem o_X5_remove : kOkV m_X5_remove 1 := ⟨rfl, ⟨kW0_in (inT4 (List.mem_of_getElem? (i := 162) rfl)) rfl, kW0_in (inT1 (List.mem_of_getElem? (i := 1) rfl)) rfl, ⟨by decide, by decide⟩, by decide +kernel⟩, kW0_in (inT4 (List.mem_of_getElem? (i := 160) rfl)) rfl, kW0_in (inT4 (List.mem_of_getElem? (i := 161) rfl)) rfl⟩
abbrev m_X5_answer : kMR := (yX5_answer, cX5_answer, 6, (some .char), [])
theorem o_X5_answer : kOkV m_X5_answer 3 := ⟨rfl, ⟨kW0_in (inT4 (List.mem_of_getElem? (i := 186) rfl)) rfl, kW0_in (inT1 (List.mem_of_getElem? (i := 1) rfl)) rfl, ⟨by decide, by decide⟩, by decide +kernel⟩, kW0_in (inT4 (List.mem_of_getElem? (i := 184) rfl)) rfl, kW0_in (inT4 (List.mem_of_getElem? (i := 185) rfl)) rfl⟩
abbrev m_X5_cancel : kMR := (yX5_cancel, cX5_cancel, 5, (some .int), [])
theorem o_X5_cancel : kOkV m_X5_cancel 2 := ⟨rfl, ⟨kW0_in (inT4 (List.mem_of_getElem? (i := 229) rfl)) rfl, kW0_in (inT1 (List.mem_of_getElem? (i := 1) rfl)) rfl, ⟨by decide, by decide⟩, by decide +kernel⟩, kW0_in (inT4 (List.mem_of_getElem? (i := 227) rfl)) rfl, kW0_in (inT4 (List.mem_of_getElem? (i := 228) rfl)) rfl⟩
abbrev m_X5_move : kMR := (yX5_move, cX5_move, 9, (some .int), [])
theorem o_X5_move : kOkV m_X5_move 4 := ⟨rfl, ⟨kW0_in (inT5 (List.mem_of_getElem? (i := 4) rfl)) rfl, kW0_in (inT1 (List.mem_of_getElem? (i := 1) rfl)) rfl, ⟨by decide, by decide⟩, by decide +kernel⟩, kW0_in (inT5 (List.mem_of_getElem? (i := 2) rfl)) rfl, kW0_in (inT5 (List.mem_of_getElem? (i := 3) rfl)) rfl⟩
abbrev m_X5_meetingCount : kMR := (yX5_meetingCount, cX5_meetingCount, 1, (some .int), [])
theorem o_X5_meetingCount : kOkV m_X5_meetingCount 0 := ⟨rfl, ⟨kW0_in (inT1 (List.mem_of_getElem? (i := 127) rfl)) rfl, kW0_in (inT1 (List.mem_of_getElem? (i := 1) rfl)) rfl, ⟨by decide, by decide⟩, by decide +kernel⟩, kW0_in (inT1 (List.mem_of_getElem? (i := 125) rfl)) rfl, kW0_in (inT1 (List.mem_of_getElem? (i := 126) rfl)) rfl⟩
abbrev m_X5_meetingAt : kMR := (yX5_meetingAt, cX5_meetingAt, 2, (some .int), [])
theorem o_X5_meetingAt : kOkV m_X5_meetingAt 1 := ⟨rfl, ⟨kW0_in (inT5 (List.mem_of_getElem? (i := 11) rfl)) rfl, kW0_in (inT1 (List.mem_of_getElem? (i := 1) rfl)) rfl, ⟨by decide, by decide⟩, by decide +kernel⟩, kW0_in (inT5 (List.mem_of_getElem? (i := 9) rfl)) rfl, kW0_in (inT5 (List.mem_of_getElem? (i := 10) rfl)) rfl⟩
abbrev m_X5_hostOf : kMR := (yX5_hostOf, cX5_hostOf, 2, (some .int), [])
theorem o_X5_hostOf : kOkV m_X5_hostOf 1 := ⟨rfl, ⟨kW0_in (inT5 (List.mem_of_getElem? (i := 19) rfl)) rfl, kW0_in (inT1 (List.mem_of_getElem? (i := 1) rfl)) rfl, ⟨by decide, by decide⟩, by decide +kernel⟩, kW0_in (inT5 (List.mem_of_getElem? (i := 17) rfl)) rfl, kW0_in (inT5 (List.mem_of_getElem? (i := 18) rfl)) rfl⟩
abbrev m_X5_answerOf : kMR := (yX5_answerOf, cX5_answerOf, 4, (some .char), [])
theorem o_X5_answerOf : kOkV m_X5_answerOf 2 := ⟨rfl, ⟨kW0_in (inT5 (List.mem_of_getElem? (i := 26) rfl)) rfl, kW0_in (inT1 (List.mem_of_getElem? (i := 1) rfl)) rfl, ⟨by decide, by decide⟩, by decide +kernel⟩, kW0_in (inT5 (List.mem_of_getElem? (i := 24) rfl)) rfl, kW0_in (inT5 (List.mem_of_getElem? (i := 25) rfl)) rfl⟩
abbrev m_X5_expected : kMR := (yX5_expected, cX5_expected, 2, (some .int), [])
theorem o_X5_expected : kOkV m_X5_expected 1 := ⟨rfl, ⟨kW0_in (inT5 (List.mem_of_getElem? (i := 33) rfl)) rfl, kW0_in (inT1 (List.mem_of_getElem? (i := 1) rfl)) rfl, ⟨by decide, by decide⟩, by decide +kernel⟩, kW0_in (inT5 (List.mem_of_getElem? (i := 31) rfl)) rfl, kW0_in (inT5 (List.mem_of_getElem? (i := 32) rfl)) rfl⟩
abbrev m_X5_dateCount : kMR := (yX5_dateCount, cX5_dateCount, 2, (some .int), [])
theorem o_X5_dateCount : kOkV m_X5_dateCount 1 := ⟨rfl, ⟨kW0_in (inT5 (List.mem_of_getElem? (i := 40) rfl)) rfl, kW0_in (inT1 (List.mem_of_getElem? (i := 1) rfl)) rfl, ⟨by decide, by decide⟩, by decide +kernel⟩, kW0_in (inT5 (List.mem_of_getElem? (i := 38) rfl)) rfl, kW0_in (inT5 (List.mem_of_getElem? (i := 39) rfl)) rfl⟩
abbrev m_X5_dayOf : kMR := (yX5_dayOf, cX5_dayOf, 3, (some .int), [])
theorem o_X5_dayOf : kOkV m_X5_dayOf 2 := ⟨rfl, ⟨kW0_in (inT5 (List.mem_of_getElem? (i := 47) rfl)) rfl, kW0_in (inT1 (List.mem_of_getElem? (i := 1) rfl)) rfl, ⟨by decide, by decide⟩, by decide +kernel⟩, kW0_in (inT5 (List.mem_of_getElem? (i := 45) rfl)) rfl, kW0_in (inT5 (List.mem_of_getElem? (i := 46) rfl)) rfl⟩
abbrev m_X5_timeOf : kMR := (yX5_timeOf, cX5_timeOf, 3, (some .int), [])
theorem o_X5_timeOf : kOkV m_X5_timeOf 2 := ⟨rfl, ⟨kW0_in (inT5 (List.mem_of_getElem? (i := 54) rfl)) rfl, kW0_in (inT1 (List.mem_of_getElem? (i := 1) rfl)) rfl, ⟨by decide, by decide⟩, by decide +kernel⟩, kW0_in (inT5 (List.mem_of_getElem? (i := 52) rfl)) rfl, kW0_in (inT5 (List.mem_of_getElem? (i := 53) rfl)) rfl⟩
abbrev m_X5_isCancelled : kMR := (yX5_isCancelled, cX5_isCancelled, 3, (some .boolean), [])
theorem o_X5_isCancelled : kOkV m_X5_isCancelled 2 := ⟨rfl, ⟨kW0_in (inT5 (List.mem_of_getElem? (i := 61) rfl)) rfl, kW0_in (inT1 (List.mem_of_getElem? (i := 1) rfl)) rfl, ⟨by decide, by decide⟩, by decide +kernel⟩, kW0_in (inT5 (List.mem_of_getElem? (i := 59) rfl)) rfl, kW0_in (inT5 (List.mem_of_getElem? (i := 60) rfl)) rfl⟩
abbrev m_X5_roomOf : kMR := (yX5_roomOf, cX5_roomOf, 3, (some .int), [])
theorem o_X5_roomOf : kOkV m_X5_roomOf 2 := ⟨rfl, ⟨kW0_in (inT5 (List.mem_of_getElem? (i := 68) rfl)) rfl, kW0_in (inT1 (List.mem_of_getElem? (i := 1) rfl)) rfl, ⟨by decide, by decide⟩, by decide +kernel⟩, kW0_in (inT5 (List.mem_of_getElem? (i := 66) rfl)) rfl, kW0_in (inT5 (List.mem_of_getElem? (i := 67) rfl)) rfl⟩
abbrev m_X5_refusalReason : kMR := (yX5_refusalReason, cX5_refusalReason, 1, (some .int), [])
theorem o_X5_refusalReason : kOkV m_X5_refusalReason 0 := ⟨rfl, ⟨kW0_in (inT5 (List.mem_of_getElem? (i := 75) rfl)) rfl, kW0_in (inT1 (List.mem_of_getElem? (i := 1) rfl)) rfl, ⟨by decide, by decide⟩, by decide +kernel⟩, kW0_in (inT5 (List.mem_of_getElem? (i := 73) rfl)) rfl, kW0_in (inT5 (List.mem_of_getElem? (i := 74) rfl)) rfl⟩
abbrev m_X5_refusalDetail : kMR := (yX5_refusalDetail, cX5_refusalDetail, 1, (some .int), [])
theorem o_X5_refusalDetail : kOkV m_X5_refusalDetail 0 := ⟨rfl, ⟨kW0_in (inT5 (List.mem_of_getElem? (i := 87) rfl)) rfl, kW0_in (inT1 (List.mem_of_getElem? (i := 1) rfl)) rfl, ⟨by decide, by decide⟩, by decide +kernel⟩, kW0_in (inT5 (List.mem_of_getElem? (i := 85) rfl)) rfl, kW0_in (inT5 (List.mem_of_getElem? (i := 86) rfl)) rfl⟩
abbrev m_X5_isFree : kMR := (yX5_isFree, cX5_isFree, 4, (some .boolean), [])
theorem o_X5_isFree : kOkV m_X5_isFree 3 := ⟨rfl, ⟨kW0_in (inT5 (List.mem_of_getElem? (i := 94) rfl)) rfl, kW0_in (inT1 (List.mem_of_getElem? (i := 1) rfl)) rfl, ⟨by decide, by decide⟩, by decide +kernel⟩, kW0_in (inT5 (List.mem_of_getElem? (i := 92) rfl)) rfl, kW0_in (inT5 (List.mem_of_getElem? (i := 93) rfl)) rfl⟩
abbrev m_X5_meetingOf : kMR := (yX5_meetingOf, cX5_meetingOf, 5, (some .int), [])
theorem o_X5_meetingOf : kOkV m_X5_meetingOf 3 := ⟨rfl, ⟨kW0_in (inT5 (List.mem_of_getElem? (i := 101) rfl)) rfl, kW0_in (inT1 (List.mem_of_getElem? (i := 1) rfl)) rfl, ⟨by decide, by decide⟩, by decide +kernel⟩, kW0_in (inT5 (List.mem_of_getElem? (i := 99) rfl)) rfl, kW0_in (inT5 (List.mem_of_getElem? (i := 100) rfl)) rfl⟩
abbrev m_X5_freeTimes : kMR := (yX5_freeTimes, cX5_freeTimes, 3, (some .int), [])
theorem o_X5_freeTimes : kOkV m_X5_freeTimes 2 := ⟨rfl, ⟨kW0_in (inT5 (List.mem_of_getElem? (i := 109) rfl)) rfl, kW0_in (inT1 (List.mem_of_getElem? (i := 1) rfl)) rfl, ⟨by decide, by decide⟩, by decide +kernel⟩, kW0_in (inT5 (List.mem_of_getElem? (i := 107) rfl)) rfl, kW0_in (inT5 (List.mem_of_getElem? (i := 108) rfl)) rfl⟩
abbrev m_X5_freeByTrying : kMR := (yX5_freeByTrying, cX5_freeByTrying, 3, (some .int), [])
theorem o_X5_freeByTrying : kOkV m_X5_freeByTrying 2 := ⟨rfl, ⟨kW0_in (inT5 (List.mem_of_getElem? (i := 116) rfl)) rfl, kW0_in (inT1 (List.mem_of_getElem? (i := 1) rfl)) rfl, ⟨by decide, by decide⟩, by decide +kernel⟩, kW0_in (inT5 (List.mem_of_getElem? (i := 114) rfl)) rfl, kW0_in (inT5 (List.mem_of_getElem? (i := 115) rfl)) rfl⟩
abbrev m_X5_longestFree : kMR := (yX5_longestFree, cX5_longestFree, 6, (some .int), [])
theorem o_X5_longestFree : kOkV m_X5_longestFree 2 := ⟨rfl, ⟨kW0_in (inT5 (List.mem_of_getElem? (i := 123) rfl)) rfl, kW0_in (inT1 (List.mem_of_getElem? (i := 1) rfl)) rfl, ⟨by decide, by decide⟩, by decide +kernel⟩, kW0_in (inT5 (List.mem_of_getElem? (i := 121) rfl)) rfl, kW0_in (inT5 (List.mem_of_getElem? (i := 122) rfl)) rfl⟩
abbrev m_X5_firstCommon : kMR := (yX5_firstCommon, cX5_firstCommon, 7, (some .int), [])
theorem o_X5_firstCommon : kOkV m_X5_firstCommon 3 := ⟨rfl, ⟨kW0_in (inT5 (List.mem_of_getElem? (i := 130) rfl)) rfl, kW0_in (inT1 (List.mem_of_getElem? (i := 1) rfl)) rfl, ⟨by decide, by decide⟩, by decide +kernel⟩, kW0_in (inT5 (List.mem_of_getElem? (i := 128) rfl)) rfl, kW0_in (inT5 (List.mem_of_getElem? (i := 129) rfl)) rfl⟩
abbrev m_X5_commonCount : kMR := (yX5_commonCount, cX5_commonCount, 7, (some .int), [])
theorem o_X5_commonCount : kOkV m_X5_commonCount 3 := ⟨rfl, ⟨kW0_in (inT5 (List.mem_of_getElem? (i := 142) rfl)) rfl, kW0_in (inT1 (List.mem_of_getElem? (i := 1) rfl)) rfl, ⟨by decide, by decide⟩, by decide +kernel⟩, kW0_in (inT5 (List.mem_of_getElem? (i := 140) rfl)) rfl, kW0_in (inT5 (List.mem_of_getElem? (i := 141) rfl)) rfl⟩
abbrev m_X5_roomFor : kMR := (yX5_roomFor, cX5_roomFor, 6, (some .int), [])
theorem o_X5_roomFor : kOkV m_X5_roomFor 4 := ⟨rfl, ⟨kW0_in (inT5 (List.mem_of_getElem? (i := 149) rfl)) rfl, kW0_in (inT1 (List.mem_of_getElem? (i := 1) rfl)) rfl, ⟨by decide, by decide⟩, by decide +kernel⟩, kW0_in (inT5 (List.mem_of_getElem? (i := 147) rfl)) rfl, kW0_in (inT5 (List.mem_of_getElem? (i := 148) rfl)) rfl⟩
abbrev m_X5_usedTimes : kMR := (yX5_usedTimes, cX5_usedTimes, 8, (some .int), [])
theorem o_X5_usedTimes : kOkV m_X5_usedTimes 2 := ⟨rfl, ⟨kW0_in (inT5 (List.mem_of_getElem? (i := 157) rfl)) rfl, kW0_in (inT1 (List.mem_of_getElem? (i := 1) rfl)) rfl, ⟨by decide, by decide⟩, by decide +kernel⟩, kW0_in (inT5 (List.mem_of_getElem? (i := 155) rfl)) rfl, kW0_in (inT5 (List.mem_of_getElem? (i := 156) rfl)) rfl⟩
abbrev m_X5_walks : kMR := (yX5_walks, cX5_walks, 8, (some .int), [])
theorem o_X5_walks : kOkV m_X5_walks 2 := ⟨rfl, ⟨kW0_in (inT5 (List.mem_of_getElem? (i := 164) rfl)) rfl, kW0_in (inT1 (List.mem_of_getElem? (i := 1) rfl)) rfl, ⟨by decide, by decide⟩, by decide +kernel⟩, kW0_in (inT5 (List.mem_of_getElem? (i := 162) rfl)) rfl, kW0_in (inT5 (List.mem_of_getElem? (i := 163) rfl)) rfl⟩
abbrev m_X5_sittings : kMR := (yX5_sittings, cX5_sittings, 5, (some .long), [])
theorem o_X5_sittings : kOkV m_X5_sittings 0 := ⟨rfl, ⟨kW0_in (inT1 (List.mem_of_getElem? (i := 135) rfl)) rfl, kW0_in (inT1 (List.mem_of_getElem? (i := 1) rfl)) rfl, ⟨by decide, by decide⟩, by decide +kernel⟩, kW0_in (inT1 (List.mem_of_getElem? (i := 133) rfl)) rfl, kW0_in (inT1 (List.mem_of_getElem? (i := 134) rfl)) rfl⟩
abbrev m_X5_meanExpected : kMR := (yX5_meanExpected, cX5_meanExpected, 4, (some .double), [])
theorem o_X5_meanExpected : kOkV m_X5_meanExpected 0 := ⟨rfl, ⟨kW0_in (inT5 (List.mem_of_getElem? (i := 185) rfl)) rfl, kW0_in (inT1 (List.mem_of_getElem? (i := 1) rfl)) rfl, ⟨by decide, by decide⟩, by decide +kernel⟩, kW0_in (inT5 (List.mem_of_getElem? (i := 183) rfl)) rfl, kW0_in (inT5 (List.mem_of_getElem? (i := 184) rfl)) rfl⟩
abbrev m_X5_yesShare : kMR := (yX5_yesShare, cX5_yesShare, 5, (some .float), [])
theorem o_X5_yesShare : kOkV m_X5_yesShare 0 := ⟨rfl, ⟨kW0_in (inT5 (List.mem_of_getElem? (i := 195) rfl)) rfl, kW0_in (inT1 (List.mem_of_getElem? (i := 1) rfl)) rfl, ⟨by decide, by decide⟩, by decide +kernel⟩, kW0_in (inT5 (List.mem_of_getElem? (i := 193) rfl)) rfl, kW0_in (inT5 (List.mem_of_getElem? (i := 194) rfl)) rfl⟩
abbrev m_X5_isConsistent : kMR := (yX5_isConsistent, cX5_isConsistent, 2, (some .boolean), [])
theorem o_X5_isConsistent : kOkV m_X5_isConsistent 0 := ⟨rfl, ⟨kW0_in (inT1 (List.mem_of_getElem? (i := 178) rfl)) rfl, kW0_in (inT1 (List.mem_of_getElem? (i := 1) rfl)) rfl, ⟨by decide, by decide⟩, by decide +kernel⟩, kW0_in (inT1 (List.mem_of_getElem? (i := 176) rfl)) rfl, kW0_in (inT1 (List.mem_of_getElem? (i := 177) rfl)) rfl⟩
abbrev m_X5_requireWithin : kMR := (yX5_requireWithin, cX5_requireWithin, 3, (none), [])
theorem o_X5_requireWithin : kOkS m_X5_requireWithin 3 := ⟨⟨kW0_in (inT2 (List.mem_of_getElem? (i := 85) rfl)) rfl, kW0_in (inT1 (List.mem_of_getElem? (i := 1) rfl)) rfl, ⟨by decide, by decide⟩, by decide +kernel⟩, kW0_in (inT2 (List.mem_of_getElem? (i := 84) rfl)) rfl⟩
abbrev m_X5_requirePerson : kMR := (yX5_requirePerson, cX5_requirePerson, 1, (none), [])
theorem o_X5_requirePerson : kOkS m_X5_requirePerson 1 := ⟨⟨kW0_in (inT2 (List.mem_of_getElem? (i := 119) rfl)) rfl, kW0_in (inT1 (List.mem_of_getElem? (i := 1) rfl)) rfl, ⟨by decide, by decide⟩, by decide +kernel⟩, kW0_in (inT2 (List.mem_of_getElem? (i := 118) rfl)) rfl⟩
abbrev m_X5_requireDay : kMR := (yX5_requireDay, cX5_requireDay, 1, (none), [])
theorem o_X5_requireDay : kOkS m_X5_requireDay 1 := ⟨⟨kW0_in (inT2 (List.mem_of_getElem? (i := 125) rfl)) rfl, kW0_in (inT1 (List.mem_of_getElem? (i := 1) rfl)) rfl, ⟨by decide, by decide⟩, by decide +kernel⟩, kW0_in (inT2 (List.mem_of_getElem? (i := 124) rfl)) rfl⟩
abbrev m_X5_requireSlot : kMR := (yX5_requireSlot, cX5_requireSlot, 3, (none), [])
theorem o_X5_requireSlot : kOkS m_X5_requireSlot 3 := ⟨⟨kW0_in (inT2 (List.mem_of_getElem? (i := 122) rfl)) rfl, kW0_in (inT1 (List.mem_of_getElem? (i := 1) rfl)) rfl, ⟨by decide, by decide⟩, by decide +kernel⟩, kW0_in (inT2 (List.mem_of_getElem? (i := 121) rfl)) rfl⟩
abbrev m_X5_requireRefusal : kMR := (yX5_requireRefusal, cX5_requireRefusal, 1, (none), [])
theorem o_X5_requireRefusal : kOkV m_X5_requireRefusal 0 := ⟨rfl, ⟨kW0_in (inT5 (List.mem_of_getElem? (i := 79) rfl)) rfl, kW0_in (inT1 (List.mem_of_getElem? (i := 1) rfl)) rfl, ⟨by decide, by decide⟩, by decide +kernel⟩, kW0_in (inT5 (List.mem_of_getElem? (i := 78) rfl)) rfl, kW0_in (List.mem_append_left _ (List.mem_of_getElem? (i := 28) rfl)) rfl⟩
abbrev m_X5_roomWith : kMR := (yX5_roomWith, cX5_roomWith, 2, (some (.object "CalendaryPlanner$Room")), [])
theorem o_X5_roomWith : kOkV m_X5_roomWith 1 := ⟨rfl, ⟨kW0_in (inT2 (List.mem_of_getElem? (i := 81) rfl)) rfl, kW0_in (inT1 (List.mem_of_getElem? (i := 1) rfl)) rfl, ⟨by decide, by decide⟩, by decide +kernel⟩, kW0_in (inT2 (List.mem_of_getElem? (i := 80) rfl)) rfl, kW0_in (List.mem_append_left _ (List.mem_of_getElem? (i := 9) rfl)) rfl⟩
abbrev m_X5_dayWith : kMR := (yX5_dayWith, cX5_dayWith, 2, (some (.object "CalendaryPlanner$Day")), [])
theorem o_X5_dayWith : kOkV m_X5_dayWith 1 := ⟨rfl, ⟨kW0_in (inT1 (List.mem_of_getElem? (i := 186) rfl)) rfl, kW0_in (inT1 (List.mem_of_getElem? (i := 1) rfl)) rfl, ⟨by decide, by decide⟩, by decide +kernel⟩, kW0_in (inT1 (List.mem_of_getElem? (i := 185) rfl)) rfl, kW0_in (List.mem_append_left _ (List.mem_of_getElem? (i := 1) rfl)) rfl⟩
abbrev m_X5_rankOf : kMR := (yX5_rankOf, cX5_rankOf, 3, (some .int), [])
theorem o_X5_rankOf : kOkV m_X5_rankOf 1 := ⟨rfl, ⟨kW0_in (inT4 (List.mem_of_getElem? (i := 132) rfl)) rfl, kW0_in (inT1 (List.mem_of_getElem? (i := 1) rfl)) rfl, ⟨by decide, by decide⟩, by decide +kernel⟩, kW0_in (inT4 (List.mem_of_getElem? (i := 131) rfl)) rfl, kW0_in (List.mem_append_left _ (List.mem_of_getElem? (i := 23) rfl)) rfl⟩
abbrev m_X5_meetingWith : kMR := (yX5_meetingWith, cX5_meetingWith, 2, (some (.object "CalendaryPlanner$Meeting")), [])
theorem o_X5_meetingWith : kOkV m_X5_meetingWith 1 := ⟨rfl, ⟨kW0_in (inT4 (List.mem_of_getElem? (i := 128) rfl)) rfl, kW0_in (inT1 (List.mem_of_getElem? (i := 1) rfl)) rfl, ⟨by decide, by decide⟩, by decide +kernel⟩, kW0_in (inT4 (List.mem_of_getElem? (i := 127) rfl)) rfl, kW0_in (List.mem_append_left _ (List.mem_of_getElem? (i := 22) rfl)) rfl⟩
abbrev m_X5_dateWith : kMR := (yX5_dateWith, cX5_dateWith, 2, (some (.object "CalendaryPlanner$Date")), [])
theorem o_X5_dateWith : kOkS m_X5_dateWith 2 := ⟨⟨kW0_in (inT4 (List.mem_of_getElem? (i := 151) rfl)) rfl, kW0_in (inT1 (List.mem_of_getElem? (i := 1) rfl)) rfl, ⟨by decide, by decide⟩, by decide +kernel⟩, kW0_in (inT4 (List.mem_of_getElem? (i := 150) rfl)) rfl⟩
abbrev m_X5_standingDateWith : kMR := (yX5_standingDateWith, cX5_standingDateWith, 3, (some (.object "CalendaryPlanner$Date")), [])
theorem o_X5_standingDateWith : kOkS m_X5_standingDateWith 2 := ⟨⟨kW0_in (inT4 (List.mem_of_getElem? (i := 232) rfl)) rfl, kW0_in (inT1 (List.mem_of_getElem? (i := 1) rfl)) rfl, ⟨by decide, by decide⟩, by decide +kernel⟩, kW0_in (inT4 (List.mem_of_getElem? (i := 231) rfl)) rfl⟩
abbrev m_X5_bitOf : kMR := (yX5_bitOf, cX5_bitOf, 1, (some .int), [])
theorem o_X5_bitOf : kOkS m_X5_bitOf 1 := ⟨⟨kW0_in (inT1 (List.mem_of_getElem? (i := 168) rfl)) rfl, kW0_in (inT1 (List.mem_of_getElem? (i := 1) rfl)) rfl, ⟨by decide, by decide⟩, by decide +kernel⟩, kW0_in (inT1 (List.mem_of_getElem? (i := 167) rfl)) rfl⟩
abbrev m_X5_holdsPerson : kMR := (yX5_holdsPerson, cX5_holdsPerson, 2, (some .boolean), [])
theorem o_X5_holdsPerson : kOkS m_X5_holdsPerson 2 := ⟨⟨kW0_in (inT2 (List.mem_of_getElem? (i := 54) rfl)) rfl, kW0_in (inT1 (List.mem_of_getElem? (i := 1) rfl)) rfl, ⟨by decide, by decide⟩, by decide +kernel⟩, kW0_in (inT2 (List.mem_of_getElem? (i := 53) rfl)) rfl⟩
abbrev m_X5_lowestPerson : kMR := (yX5_lowestPerson, cX5_lowestPerson, 2, (some .int), [])
theorem o_X5_lowestPerson : kOkS m_X5_lowestPerson 1 := ⟨⟨kW0_in (inT3 (List.mem_of_getElem? (i := 27) rfl)) rfl, kW0_in (inT1 (List.mem_of_getElem? (i := 1) rfl)) rfl, ⟨by decide, by decide⟩, by decide +kernel⟩, kW0_in (inT3 (List.mem_of_getElem? (i := 26) rfl)) rfl⟩
abbrev m_X5_planDates : kMR := (yX5_planDates, cX5_planDates, 7, (none), [])
theorem o_X5_planDates : kOkV m_X5_planDates 2 := ⟨rfl, ⟨kW0_in (inT3 (List.mem_of_getElem? (i := 20) rfl)) rfl, kW0_in (inT1 (List.mem_of_getElem? (i := 1) rfl)) rfl, ⟨by decide, by decide⟩, by decide +kernel⟩, kW0_in (inT3 (List.mem_of_getElem? (i := 19) rfl)) rfl, kW0_in (List.mem_append_left _ (List.mem_of_getElem? (i := 13) rfl)) rfl⟩
abbrev m_X5_putOnItsDay : kMR := (yX5_putOnItsDay, cX5_putOnItsDay, 2, (none), [])
theorem o_X5_putOnItsDay : kOkV m_X5_putOnItsDay 1 := ⟨rfl, ⟨kW0_in (inT3 (List.mem_of_getElem? (i := 90) rfl)) rfl, kW0_in (inT1 (List.mem_of_getElem? (i := 1) rfl)) rfl, ⟨by decide, by decide⟩, by decide +kernel⟩, kW0_in (inT3 (List.mem_of_getElem? (i := 89) rfl)) rfl, kW0_in (List.mem_append_left _ (List.mem_of_getElem? (i := 19) rfl)) rfl⟩
abbrev m_X5_takeOffItsDay : kMR := (yX5_takeOffItsDay, cX5_takeOffItsDay, 2, (none), [])
theorem o_X5_takeOffItsDay : kOkV m_X5_takeOffItsDay 1 := ⟨rfl, ⟨kW0_in (inT4 (List.mem_of_getElem? (i := 166) rfl)) rfl, kW0_in (inT1 (List.mem_of_getElem? (i := 1) rfl)) rfl, ⟨by decide, by decide⟩, by decide +kernel⟩, kW0_in (inT4 (List.mem_of_getElem? (i := 165) rfl)) rfl, kW0_in (List.mem_append_left _ (List.mem_of_getElem? (i := 24) rfl)) rfl⟩
abbrev m_X5_noteRefusal : kMR := (yX5_noteRefusal, cX5_noteRefusal, 3, (none), [])
theorem o_X5_noteRefusal : kOkV m_X5_noteRefusal 2 := ⟨rfl, ⟨kW0_in (inT3 (List.mem_of_getElem? (i := 32) rfl)) rfl, kW0_in (inT1 (List.mem_of_getElem? (i := 1) rfl)) rfl, ⟨by decide, by decide⟩, by decide +kernel⟩, kW0_in (inT3 (List.mem_of_getElem? (i := 31) rfl)) rfl, kW0_in (List.mem_append_left _ (List.mem_of_getElem? (i := 15) rfl)) rfl⟩
abbrev m_X5_requireNobodyBusy : kMR := (yX5_requireNobodyBusy, cX5_requireNobodyBusy, 5, (none), [])
theorem o_X5_requireNobodyBusy : kOkV m_X5_requireNobodyBusy 3 := ⟨rfl, ⟨kW0_in (inT3 (List.mem_of_getElem? (i := 24) rfl)) rfl, kW0_in (inT1 (List.mem_of_getElem? (i := 1) rfl)) rfl, ⟨by decide, by decide⟩, by decide +kernel⟩, kW0_in (inT3 (List.mem_of_getElem? (i := 23) rfl)) rfl, kW0_in (List.mem_append_left _ (List.mem_of_getElem? (i := 14) rfl)) rfl⟩
abbrev m_X5_requireRoom : kMR := (yX5_requireRoom, cX5_requireRoom, 6, (some (.object "CalendaryPlanner$Room")), [])
theorem o_X5_requireRoom : kOkV m_X5_requireRoom 4 := ⟨rfl, ⟨kW0_in (inT3 (List.mem_of_getElem? (i := 52) rfl)) rfl, kW0_in (inT1 (List.mem_of_getElem? (i := 1) rfl)) rfl, ⟨by decide, by decide⟩, by decide +kernel⟩, kW0_in (inT3 (List.mem_of_getElem? (i := 51) rfl)) rfl, kW0_in (List.mem_append_left _ (List.mem_of_getElem? (i := 16) rfl)) rfl⟩
abbrev m_X5_requireSeatsLeft : kMR := (yX5_requireSeatsLeft, cX5_requireSeatsLeft, 5, (none), [])
theorem o_X5_requireSeatsLeft : kOkV m_X5_requireSeatsLeft 1 := ⟨rfl, ⟨kW0_in (inT4 (List.mem_of_getElem? (i := 196) rfl)) rfl, kW0_in (inT1 (List.mem_of_getElem? (i := 1) rfl)) rfl, ⟨by decide, by decide⟩, by decide +kernel⟩, kW0_in (inT4 (List.mem_of_getElem? (i := 195) rfl)) rfl, kW0_in (List.mem_append_left _ (List.mem_of_getElem? (i := 26) rfl)) rfl⟩
abbrev m_X5_requireNoClashFor : kMR := (yX5_requireNoClashFor, cX5_requireNoClashFor, 5, (none), [])
theorem o_X5_requireNoClashFor : kOkV m_X5_requireNoClashFor 2 := ⟨rfl, ⟨kW0_in (inT4 (List.mem_of_getElem? (i := 201) rfl)) rfl, kW0_in (inT1 (List.mem_of_getElem? (i := 1) rfl)) rfl, ⟨by decide, by decide⟩, by decide +kernel⟩, kW0_in (inT4 (List.mem_of_getElem? (i := 200) rfl)) rfl, kW0_in (List.mem_append_left _ (List.mem_of_getElem? (i := 27) rfl)) rfl⟩
abbrev m_X5_busyPeople : kMR := (yX5_busyPeople, cX5_busyPeople, 7, (some .int), [])
theorem o_X5_busyPeople : kOkV m_X5_busyPeople 2 := ⟨rfl, ⟨kW0_in (inT2 (List.mem_of_getElem? (i := 23) rfl)) rfl, kW0_in (inT1 (List.mem_of_getElem? (i := 1) rfl)) rfl, ⟨by decide, by decide⟩, by decide +kernel⟩, kW0_in (inT2 (List.mem_of_getElem? (i := 22) rfl)) rfl, kW0_in (List.mem_append_left _ (List.mem_of_getElem? (i := 3) rfl)) rfl⟩
abbrev m_X5_bestRoom : kMR := (yX5_bestRoom, cX5_bestRoom, 9, (some (.object "CalendaryPlanner$Room")), [])
theorem o_X5_bestRoom : kOkV m_X5_bestRoom 3 := ⟨rfl, ⟨kW0_in (inT3 (List.mem_of_getElem? (i := 56) rfl)) rfl, kW0_in (inT1 (List.mem_of_getElem? (i := 1) rfl)) rfl, ⟨by decide, by decide⟩, by decide +kernel⟩, kW0_in (inT3 (List.mem_of_getElem? (i := 55) rfl)) rfl, kW0_in (List.mem_append_left _ (List.mem_of_getElem? (i := 17) rfl)) rfl⟩
abbrev m_X5_isTaken : kMR := (yX5_isTaken, cX5_isTaken, 7, (some .boolean), [])
theorem o_X5_isTaken : kOkV m_X5_isTaken 3 := ⟨rfl, ⟨kW0_in (inT2 (List.mem_of_getElem? (i := 39) rfl)) rfl, kW0_in (inT1 (List.mem_of_getElem? (i := 1) rfl)) rfl, ⟨by decide, by decide⟩, by decide +kernel⟩, kW0_in (inT2 (List.mem_of_getElem? (i := 38) rfl)) rfl, kW0_in (List.mem_append_left _ (List.mem_of_getElem? (i := 4) rfl)) rfl⟩
abbrev m_X5_wouldClash : kMR := (yX5_wouldClash, cX5_wouldClash, 13, (some .boolean), [])
theorem o_X5_wouldClash : kOkV m_X5_wouldClash 5 := ⟨rfl, ⟨kW0_in (inT3 (List.mem_of_getElem? (i := 61) rfl)) rfl, kW0_in (inT1 (List.mem_of_getElem? (i := 1) rfl)) rfl, ⟨by decide, by decide⟩, by decide +kernel⟩, kW0_in (inT3 (List.mem_of_getElem? (i := 60) rfl)) rfl, kW0_in (List.mem_append_left _ (List.mem_of_getElem? (i := 18) rfl)) rfl⟩
abbrev m_X5_dateOfPersonAt : kMR := (yX5_dateOfPersonAt, cX5_dateOfPersonAt, 7, (some (.object "CalendaryPlanner$Date")), [])
theorem o_X5_dateOfPersonAt : kOkV m_X5_dateOfPersonAt 3 := ⟨rfl, ⟨kW0_in (inT2 (List.mem_of_getElem? (i := 65) rfl)) rfl, kW0_in (inT1 (List.mem_of_getElem? (i := 1) rfl)) rfl, ⟨by decide, by decide⟩, by decide +kernel⟩, kW0_in (inT2 (List.mem_of_getElem? (i := 64) rfl)) rfl, kW0_in (List.mem_append_left _ (List.mem_of_getElem? (i := 8) rfl)) rfl⟩
abbrev m_X5_countFreeBySweep : kMR := (yX5_countFreeBySweep, cX5_countFreeBySweep, 8, (some .int), [])
theorem o_X5_countFreeBySweep : kOkV m_X5_countFreeBySweep 2 := ⟨rfl, ⟨kW0_in (inT2 (List.mem_of_getElem? (i := 47) rfl)) rfl, kW0_in (inT1 (List.mem_of_getElem? (i := 1) rfl)) rfl, ⟨by decide, by decide⟩, by decide +kernel⟩, kW0_in (inT2 (List.mem_of_getElem? (i := 46) rfl)) rfl, kW0_in (List.mem_append_left _ (List.mem_of_getElem? (i := 6) rfl)) rfl⟩
abbrev m_X5_countFreeByTrying : kMR := (yX5_countFreeByTrying, cX5_countFreeByTrying, 5, (some .int), [])
theorem o_X5_countFreeByTrying : kOkV m_X5_countFreeByTrying 2 := ⟨rfl, ⟨kW0_in (inT2 (List.mem_of_getElem? (i := 61) rfl)) rfl, kW0_in (inT1 (List.mem_of_getElem? (i := 1) rfl)) rfl, ⟨by decide, by decide⟩, by decide +kernel⟩, kW0_in (inT2 (List.mem_of_getElem? (i := 60) rfl)) rfl, kW0_in (List.mem_append_left _ (List.mem_of_getElem? (i := 7) rfl)) rfl⟩
abbrev m_X5_commonRoom : kMR := (yX5_commonRoom, cX5_commonRoom, 3, (some (.object "CalendaryPlanner$Room")), [])
theorem o_X5_commonRoom : kOkV m_X5_commonRoom 2 := ⟨rfl, ⟨kW0_in (inT5 (List.mem_of_getElem? (i := 134) rfl)) rfl, kW0_in (inT1 (List.mem_of_getElem? (i := 1) rfl)) rfl, ⟨by decide, by decide⟩, by decide +kernel⟩, kW0_in (inT5 (List.mem_of_getElem? (i := 133) rfl)) rfl, kW0_in (List.mem_append_left _ (List.mem_of_getElem? (i := 29) rfl)) rfl⟩
abbrev m_X5_hasDoubleUse : kMR := (yX5_hasDoubleUse, cX5_hasDoubleUse, 6, (some .boolean), [])
theorem o_X5_hasDoubleUse : kOkV m_X5_hasDoubleUse 1 := ⟨rfl, ⟨kW0_in (inT1 (List.mem_of_getElem? (i := 182) rfl)) rfl, kW0_in (inT1 (List.mem_of_getElem? (i := 1) rfl)) rfl, ⟨by decide, by decide⟩, by decide +kernel⟩, kW0_in (inT1 (List.mem_of_getElem? (i := 181) rfl)) rfl, kW0_in (List.mem_append_left _ (List.mem_of_getElem? (i := 0) rfl)) rfl⟩
abbrev m_X5_countsAgree : kMR := (yX5_countsAgree, cX5_countsAgree, 3, (some .boolean), [])
theorem o_X5_countsAgree : kOkV m_X5_countsAgree 1 := ⟨rfl, ⟨kW0_in (inT2 (List.mem_of_getElem? (i := 43) rfl)) rfl, kW0_in (inT1 (List.mem_of_getElem? (i := 1) rfl)) rfl, ⟨by decide, by decide⟩, by decide +kernel⟩, kW0_in (inT2 (List.mem_of_getElem? (i := 42) rfl)) rfl, kW0_in (List.mem_append_left _ (List.mem_of_getElem? (i := 5) rfl)) rfl⟩
abbrev m_X6_init : kMR := (yX6_init, cX6_init, 1, (none), [])
theorem o_X6_init : kOkI m_X6_init 0 := ⟨rfl, rfl, ⟨kW0_in (inT5 (List.mem_of_getElem? (i := 201) rfl)) rfl, kW0_in (inT1 (List.mem_of_getElem? (i := 7) rfl)) rfl, ⟨by decide, by decide⟩, by decide +kernel⟩, rfl, kW0_in (inT5 (List.mem_of_getElem? (i := 200) rfl)) rfl⟩
abbrev m_X6_thrown : kMR := (yX6_thrown, cX6_thrown, 1, (some .int), [])
theorem o_X6_thrown : kOkV m_X6_thrown 0 := ⟨rfl, ⟨kW0_in (inT5 (List.mem_of_getElem? (i := 223) rfl)) rfl, kW0_in (inT1 (List.mem_of_getElem? (i := 7) rfl)) rfl, ⟨by decide, by decide⟩, by decide +kernel⟩, kW0_in (inT5 (List.mem_of_getElem? (i := 221) rfl)) rfl, kW0_in (inT5 (List.mem_of_getElem? (i := 222) rfl)) rfl⟩
abbrev m_X6_fails : kMR := (yX6_fails, cX6_fails, 2, (some .boolean), [])
theorem o_X6_fails : kOkV m_X6_fails 1 := ⟨rfl, ⟨kW0_in (inT5 (List.mem_of_getElem? (i := 237) rfl)) rfl, kW0_in (inT1 (List.mem_of_getElem? (i := 7) rfl)) rfl, ⟨by decide, by decide⟩, by decide +kernel⟩, kW0_in (inT5 (List.mem_of_getElem? (i := 236) rfl)) rfl, kW0_in (List.mem_append_left _ (List.mem_of_getElem? (i := 30) rfl)) rfl⟩
abbrev m_X6_in : kMR := (yX6_in, cX6_in, 3, (some .boolean), [])
theorem o_X6_in : kOkS m_X6_in 3 := ⟨⟨kW0_in (inT5 (List.mem_of_getElem? (i := 233) rfl)) rfl, kW0_in (inT1 (List.mem_of_getElem? (i := 7) rfl)) rfl, ⟨by decide, by decide⟩, by decide +kernel⟩, kW0_in (inT5 (List.mem_of_getElem? (i := 232) rfl)) rfl⟩
abbrev m_X6_isRoom : kMR := (yX6_isRoom, cX6_isRoom, 1, (some .boolean), [])
theorem o_X6_isRoom : kOkS m_X6_isRoom 1 := ⟨⟨kW0_in (inT5 (List.mem_of_getElem? (i := 230) rfl)) rfl, kW0_in (inT1 (List.mem_of_getElem? (i := 7) rfl)) rfl, ⟨by decide, by decide⟩, by decide +kernel⟩, kW0_in (inT5 (List.mem_of_getElem? (i := 229) rfl)) rfl⟩
abbrev m_X6_isPerson : kMR := (yX6_isPerson, cX6_isPerson, 1, (some .boolean), [])
theorem o_X6_isPerson : kOkS m_X6_isPerson 1 := ⟨⟨kW0_in (inT6 (List.mem_of_getElem? (i := 16) rfl)) rfl, kW0_in (inT1 (List.mem_of_getElem? (i := 7) rfl)) rfl, ⟨by decide, by decide⟩, by decide +kernel⟩, kW0_in (inT6 (List.mem_of_getElem? (i := 15) rfl)) rfl⟩
abbrev m_X6_isDay : kMR := (yX6_isDay, cX6_isDay, 1, (some .boolean), [])
theorem o_X6_isDay : kOkS m_X6_isDay 1 := ⟨⟨kW0_in (inT6 (List.mem_of_getElem? (i := 19) rfl)) rfl, kW0_in (inT1 (List.mem_of_getElem? (i := 7) rfl)) rfl, ⟨by decide, by decide⟩, by decide +kernel⟩, kW0_in (inT6 (List.mem_of_getElem? (i := 18) rfl)) rfl⟩
abbrev m_X6_isTime : kMR := (yX6_isTime, cX6_isTime, 1, (some .boolean), [])
theorem o_X6_isTime : kOkS m_X6_isTime 1 := ⟨⟨kW0_in (inT6 (List.mem_of_getElem? (i := 22) rfl)) rfl, kW0_in (inT1 (List.mem_of_getElem? (i := 7) rfl)) rfl, ⟨by decide, by decide⟩, by decide +kernel⟩, kW0_in (inT6 (List.mem_of_getElem? (i := 21) rfl)) rfl⟩
abbrev m_X6_setRoom : kMR := (yX6_setRoom, cX6_setRoom, 5, (some .int), [])
theorem o_X6_setRoom : kOkV m_X6_setRoom 3 := ⟨rfl, ⟨kW0_in (inT5 (List.mem_of_getElem? (i := 227) rfl)) rfl, kW0_in (inT1 (List.mem_of_getElem? (i := 7) rfl)) rfl, ⟨by decide, by decide⟩, by decide +kernel⟩, kW0_in (inT5 (List.mem_of_getElem? (i := 225) rfl)) rfl, kW0_in (inT5 (List.mem_of_getElem? (i := 226) rfl)) rfl⟩
abbrev m_X6_setGap : kMR := (yX6_setGap, cX6_setGap, 3, (some .int), [])
theorem o_X6_setGap : kOkV m_X6_setGap 1 := ⟨rfl, ⟨kW0_in (inT6 (List.mem_of_getElem? (i := 1) rfl)) rfl, kW0_in (inT1 (List.mem_of_getElem? (i := 7) rfl)) rfl, ⟨by decide, by decide⟩, by decide +kernel⟩, kW0_in (inT5 (List.mem_of_getElem? (i := 239) rfl)) rfl, kW0_in (inT6 (List.mem_of_getElem? (i := 0) rfl)) rfl⟩
abbrev m_X6_seatsOf : kMR := (yX6_seatsOf, cX6_seatsOf, 2, (some .int), [])
theorem o_X6_seatsOf : kOkV m_X6_seatsOf 1 := ⟨rfl, ⟨kW0_in (inT6 (List.mem_of_getElem? (i := 5) rfl)) rfl, kW0_in (inT1 (List.mem_of_getElem? (i := 7) rfl)) rfl, ⟨by decide, by decide⟩, by decide +kernel⟩, kW0_in (inT6 (List.mem_of_getElem? (i := 3) rfl)) rfl, kW0_in (inT6 (List.mem_of_getElem? (i := 4) rfl)) rfl⟩
abbrev m_X6_houseOf : kMR := (yX6_houseOf, cX6_houseOf, 2, (some .int), [])
theorem o_X6_houseOf : kOkV m_X6_houseOf 1 := ⟨rfl, ⟨kW0_in (inT6 (List.mem_of_getElem? (i := 9) rfl)) rfl, kW0_in (inT1 (List.mem_of_getElem? (i := 7) rfl)) rfl, ⟨by decide, by decide⟩, by decide +kernel⟩, kW0_in (inT6 (List.mem_of_getElem? (i := 7) rfl)) rfl, kW0_in (inT6 (List.mem_of_getElem? (i := 8) rfl)) rfl⟩
abbrev m_X6_of : kMR := (yX6_of, cX6_of, 3, (some .int), [])
theorem o_X6_of : kOkV m_X6_of 2 := ⟨rfl, ⟨kW0_in (inT6 (List.mem_of_getElem? (i := 30) rfl)) rfl, kW0_in (inT1 (List.mem_of_getElem? (i := 7) rfl)) rfl, ⟨by decide, by decide⟩, by decide +kernel⟩, kW0_in (inT6 (List.mem_of_getElem? (i := 29) rfl)) rfl, kW0_in (List.mem_append_left _ (List.mem_of_getElem? (i := 32) rfl)) rfl⟩
abbrev m_X6_lays : kMR := (yX6_lays, cX6_lays, 4, (none), [])
theorem o_X6_lays : kOkV m_X6_lays 3 := ⟨rfl, ⟨kW0_in (inT6 (List.mem_of_getElem? (i := 73) rfl)) rfl, kW0_in (inT1 (List.mem_of_getElem? (i := 7) rfl)) rfl, ⟨by decide, by decide⟩, by decide +kernel⟩, kW0_in (inT6 (List.mem_of_getElem? (i := 72) rfl)) rfl, kW0_in (List.mem_append_left _ (List.mem_of_getElem? (i := 42) rfl)) rfl⟩
abbrev m_X6_date : kMR := (yX6_date, cX6_date, 4, (some .int), [])
theorem o_X6_date : kOkV m_X6_date 3 := ⟨rfl, ⟨kW0_in (inT6 (List.mem_of_getElem? (i := 42) rfl)) rfl, kW0_in (inT1 (List.mem_of_getElem? (i := 7) rfl)) rfl, ⟨by decide, by decide⟩, by decide +kernel⟩, kW0_in (inT6 (List.mem_of_getElem? (i := 41) rfl)) rfl, kW0_in (List.mem_append_left _ (List.mem_of_getElem? (i := 35) rfl)) rfl⟩
abbrev m_X6_at : kMR := (yX6_at, cX6_at, 3, (some .int), [])
theorem o_X6_at : kOkV m_X6_at 1 := ⟨rfl, ⟨kW0_in (inT6 (List.mem_of_getElem? (i := 85) rfl)) rfl, kW0_in (inT1 (List.mem_of_getElem? (i := 7) rfl)) rfl, ⟨by decide, by decide⟩, by decide +kernel⟩, kW0_in (inT6 (List.mem_of_getElem? (i := 84) rfl)) rfl, kW0_in (List.mem_append_left _ (List.mem_of_getElem? (i := 44) rfl)) rfl⟩
abbrev m_X6_isExpected : kMR := (yX6_isExpected, cX6_isExpected, 3, (some .boolean), [])
theorem o_X6_isExpected : kOkV m_X6_isExpected 2 := ⟨rfl, ⟨kW0_in (inT6 (List.mem_of_getElem? (i := 54) rfl)) rfl, kW0_in (inT1 (List.mem_of_getElem? (i := 7) rfl)) rfl, ⟨by decide, by decide⟩, by decide +kernel⟩, kW0_in (inT6 (List.mem_of_getElem? (i := 53) rfl)) rfl, kW0_in (List.mem_append_left _ (List.mem_of_getElem? (i := 38) rfl)) rfl⟩
abbrev m_X6_people : kMR := (yX6_people, cX6_people, 4, (some .int), [])
theorem o_X6_people : kOkV m_X6_people 1 := ⟨rfl, ⟨kW0_in (inT6 (List.mem_of_getElem? (i := 50) rfl)) rfl, kW0_in (inT1 (List.mem_of_getElem? (i := 7) rfl)) rfl, ⟨by decide, by decide⟩, by decide +kernel⟩, kW0_in (inT6 (List.mem_of_getElem? (i := 49) rfl)) rfl, kW0_in (List.mem_append_left _ (List.mem_of_getElem? (i := 37) rfl)) rfl⟩
abbrev m_X6_many : kMR := (yX6_many, cX6_many, 3, (some .int), [])
theorem o_X6_many : kOkS m_X6_many 1 := ⟨⟨kW0_in (inT6 (List.mem_of_getElem? (i := 69) rfl)) rfl, kW0_in (inT1 (List.mem_of_getElem? (i := 7) rfl)) rfl, ⟨by decide, by decide⟩, by decide +kernel⟩, kW0_in (inT6 (List.mem_of_getElem? (i := 68) rfl)) rfl⟩
abbrev m_X6_isOn : kMR := (yX6_isOn, cX6_isOn, 3, (some .boolean), [])
theorem o_X6_isOn : kOkV m_X6_isOn 2 := ⟨rfl, ⟨kW0_in (inT6 (List.mem_of_getElem? (i := 38) rfl)) rfl, kW0_in (inT1 (List.mem_of_getElem? (i := 7) rfl)) rfl, ⟨by decide, by decide⟩, by decide +kernel⟩, kW0_in (inT6 (List.mem_of_getElem? (i := 37) rfl)) rfl, kW0_in (List.mem_append_left _ (List.mem_of_getElem? (i := 34) rfl)) rfl⟩
abbrev m_X6_between : kMR := (yX6_between, cX6_between, 6, (some .int), [])
theorem o_X6_between : kOkV m_X6_between 4 := ⟨rfl, ⟨kW0_in (inT6 (List.mem_of_getElem? (i := 46) rfl)) rfl, kW0_in (inT1 (List.mem_of_getElem? (i := 7) rfl)) rfl, ⟨by decide, by decide⟩, by decide +kernel⟩, kW0_in (inT6 (List.mem_of_getElem? (i := 45) rfl)) rfl, kW0_in (List.mem_append_left _ (List.mem_of_getElem? (i := 36) rfl)) rfl⟩
abbrev m_X6_counts : kMR := (yX6_counts, cX6_counts, 4, (some .boolean), [])
theorem o_X6_counts : kOkV m_X6_counts 3 := ⟨rfl, ⟨kW0_in (inT6 (List.mem_of_getElem? (i := 34) rfl)) rfl, kW0_in (inT1 (List.mem_of_getElem? (i := 7) rfl)) rfl, ⟨by decide, by decide⟩, by decide +kernel⟩, kW0_in (inT6 (List.mem_of_getElem? (i := 33) rfl)) rfl, kW0_in (List.mem_append_left _ (List.mem_of_getElem? (i := 33) rfl)) rfl⟩
abbrev m_X6_busy : kMR := (yX6_busy, cX6_busy, 8, (some .int), [])
theorem o_X6_busy : kOkV m_X6_busy 4 := ⟨rfl, ⟨kW0_in (inT6 (List.mem_of_getElem? (i := 26) rfl)) rfl, kW0_in (inT1 (List.mem_of_getElem? (i := 7) rfl)) rfl, ⟨by decide, by decide⟩, by decide +kernel⟩, kW0_in (inT6 (List.mem_of_getElem? (i := 25) rfl)) rfl, kW0_in (List.mem_append_left _ (List.mem_of_getElem? (i := 31) rfl)) rfl⟩
abbrev m_X6_fits : kMR := (yX6_fits, cX6_fits, 10, (some .boolean), [])
theorem o_X6_fits : kOkV m_X6_fits 5 := ⟨rfl, ⟨kW0_in (inT6 (List.mem_of_getElem? (i := 66) rfl)) rfl, kW0_in (inT1 (List.mem_of_getElem? (i := 7) rfl)) rfl, ⟨by decide, by decide⟩, by decide +kernel⟩, kW0_in (inT6 (List.mem_of_getElem? (i := 65) rfl)) rfl, kW0_in (List.mem_append_left _ (List.mem_of_getElem? (i := 41) rfl)) rfl⟩
abbrev m_X6_smallest : kMR := (yX6_smallest, cX6_smallest, 7, (some .int), [])
theorem o_X6_smallest : kOkV m_X6_smallest 4 := ⟨rfl, ⟨kW0_in (inT6 (List.mem_of_getElem? (i := 62) rfl)) rfl, kW0_in (inT1 (List.mem_of_getElem? (i := 7) rfl)) rfl, ⟨by decide, by decide⟩, by decide +kernel⟩, kW0_in (inT6 (List.mem_of_getElem? (i := 61) rfl)) rfl, kW0_in (List.mem_append_left _ (List.mem_of_getElem? (i := 40) rfl)) rfl⟩
abbrev m_X6_refuses : kMR := (yX6_refuses, cX6_refuses, 4, (some .boolean), [])
theorem o_X6_refuses : kOkV m_X6_refuses 3 := ⟨rfl, ⟨kW0_in (inT6 (List.mem_of_getElem? (i := 58) rfl)) rfl, kW0_in (inT1 (List.mem_of_getElem? (i := 7) rfl)) rfl, ⟨by decide, by decide⟩, by decide +kernel⟩, kW0_in (inT6 (List.mem_of_getElem? (i := 57) rfl)) rfl, kW0_in (List.mem_append_left _ (List.mem_of_getElem? (i := 39) rfl)) rfl⟩
abbrev m_X6_dates : kMR := (yX6_dates, cX6_dates, 7, (none), [])
theorem o_X6_dates : kOkV m_X6_dates 5 := ⟨rfl, ⟨kW0_in (inT6 (List.mem_of_getElem? (i := 77) rfl)) rfl, kW0_in (inT1 (List.mem_of_getElem? (i := 7) rfl)) rfl, ⟨by decide, by decide⟩, by decide +kernel⟩, kW0_in (inT6 (List.mem_of_getElem? (i := 76) rfl)) rfl, kW0_in (List.mem_append_left _ (List.mem_of_getElem? (i := 43) rfl)) rfl⟩
abbrev m_X6_ask : kMR := (yX6_ask, cX6_ask, 12, (some .int), [])
theorem o_X6_ask : kOkV m_X6_ask 5 := ⟨rfl, ⟨kW0_in (inT6 (List.mem_of_getElem? (i := 13) rfl)) rfl, kW0_in (inT1 (List.mem_of_getElem? (i := 7) rfl)) rfl, ⟨by decide, by decide⟩, by decide +kernel⟩, kW0_in (inT6 (List.mem_of_getElem? (i := 11) rfl)) rfl, kW0_in (inT6 (List.mem_of_getElem? (i := 12) rfl)) rfl⟩
abbrev m_X6_extend : kMR := (yX6_extend, cX6_extend, 10, (some .int), [])
theorem o_X6_extend : kOkV m_X6_extend 3 := ⟨rfl, ⟨kW0_in (inT6 (List.mem_of_getElem? (i := 81) rfl)) rfl, kW0_in (inT1 (List.mem_of_getElem? (i := 7) rfl)) rfl, ⟨by decide, by decide⟩, by decide +kernel⟩, kW0_in (inT6 (List.mem_of_getElem? (i := 79) rfl)) rfl, kW0_in (inT6 (List.mem_of_getElem? (i := 80) rfl)) rfl⟩
abbrev m_X6_isNone : kMR := (yX6_isNone, cX6_isNone, 2, (some .boolean), [])
theorem o_X6_isNone : kOkV m_X6_isNone 1 := ⟨rfl, ⟨kW0_in (inT6 (List.mem_of_getElem? (i := 93) rfl)) rfl, kW0_in (inT1 (List.mem_of_getElem? (i := 7) rfl)) rfl, ⟨by decide, by decide⟩, by decide +kernel⟩, kW0_in (inT6 (List.mem_of_getElem? (i := 92) rfl)) rfl, kW0_in (List.mem_append_left _ (List.mem_of_getElem? (i := 45) rfl)) rfl⟩
abbrev m_X6_isNoDate : kMR := (yX6_isNoDate, cX6_isNoDate, 3, (some .boolean), [])
theorem o_X6_isNoDate : kOkV m_X6_isNoDate 2 := ⟨rfl, ⟨kW0_in (inT6 (List.mem_of_getElem? (i := 113) rfl)) rfl, kW0_in (inT1 (List.mem_of_getElem? (i := 7) rfl)) rfl, ⟨by decide, by decide⟩, by decide +kernel⟩, kW0_in (inT6 (List.mem_of_getElem? (i := 112) rfl)) rfl, kW0_in (List.mem_append_left _ (List.mem_of_getElem? (i := 48) rfl)) rfl⟩
abbrev m_X6_remove : kMR := (yX6_remove, cX6_remove, 4, (some .int), [])
theorem o_X6_remove : kOkV m_X6_remove 1 := ⟨rfl, ⟨kW0_in (inT6 (List.mem_of_getElem? (i := 89) rfl)) rfl, kW0_in (inT1 (List.mem_of_getElem? (i := 7) rfl)) rfl, ⟨by decide, by decide⟩, by decide +kernel⟩, kW0_in (inT6 (List.mem_of_getElem? (i := 87) rfl)) rfl, kW0_in (inT6 (List.mem_of_getElem? (i := 88) rfl)) rfl⟩
abbrev m_X6_isKeptOut : kMR := (yX6_isKeptOut, cX6_isKeptOut, 4, (some .boolean), [])
theorem o_X6_isKeptOut : kOkV m_X6_isKeptOut 2 := ⟨rfl, ⟨kW0_in (inT6 (List.mem_of_getElem? (i := 101) rfl)) rfl, kW0_in (inT1 (List.mem_of_getElem? (i := 7) rfl)) rfl, ⟨by decide, by decide⟩, by decide +kernel⟩, kW0_in (inT6 (List.mem_of_getElem? (i := 100) rfl)) rfl, kW0_in (List.mem_append_left _ (List.mem_of_getElem? (i := 46) rfl)) rfl⟩
abbrev m_X6_clashes : kMR := (yX6_clashes, cX6_clashes, 8, (some .boolean), [])
theorem o_X6_clashes : kOkV m_X6_clashes 3 := ⟨rfl, ⟨kW0_in (inT6 (List.mem_of_getElem? (i := 105) rfl)) rfl, kW0_in (inT1 (List.mem_of_getElem? (i := 7) rfl)) rfl, ⟨by decide, by decide⟩, by decide +kernel⟩, kW0_in (inT6 (List.mem_of_getElem? (i := 104) rfl)) rfl, kW0_in (List.mem_append_left _ (List.mem_of_getElem? (i := 47) rfl)) rfl⟩
abbrev m_X6_answer : kMR := (yX6_answer, cX6_answer, 6, (some .char), [])
theorem o_X6_answer : kOkV m_X6_answer 3 := ⟨rfl, ⟨kW0_in (inT6 (List.mem_of_getElem? (i := 97) rfl)) rfl, kW0_in (inT1 (List.mem_of_getElem? (i := 7) rfl)) rfl, ⟨by decide, by decide⟩, by decide +kernel⟩, kW0_in (inT6 (List.mem_of_getElem? (i := 95) rfl)) rfl, kW0_in (inT6 (List.mem_of_getElem? (i := 96) rfl)) rfl⟩
abbrev m_X6_cancel : kMR := (yX6_cancel, cX6_cancel, 6, (some .int), [])
theorem o_X6_cancel : kOkV m_X6_cancel 2 := ⟨rfl, ⟨kW0_in (inT6 (List.mem_of_getElem? (i := 109) rfl)) rfl, kW0_in (inT1 (List.mem_of_getElem? (i := 7) rfl)) rfl, ⟨by decide, by decide⟩, by decide +kernel⟩, kW0_in (inT6 (List.mem_of_getElem? (i := 107) rfl)) rfl, kW0_in (inT6 (List.mem_of_getElem? (i := 108) rfl)) rfl⟩
abbrev m_X6_move : kMR := (yX6_move, cX6_move, 8, (some .int), [])
theorem o_X6_move : kOkV m_X6_move 4 := ⟨rfl, ⟨kW0_in (inT6 (List.mem_of_getElem? (i := 117) rfl)) rfl, kW0_in (inT1 (List.mem_of_getElem? (i := 7) rfl)) rfl, ⟨by decide, by decide⟩, by decide +kernel⟩, kW0_in (inT6 (List.mem_of_getElem? (i := 115) rfl)) rfl, kW0_in (inT6 (List.mem_of_getElem? (i := 116) rfl)) rfl⟩
abbrev m_X6_meetingCount : kMR := (yX6_meetingCount, cX6_meetingCount, 1, (some .int), [])
theorem o_X6_meetingCount : kOkV m_X6_meetingCount 0 := ⟨rfl, ⟨kW0_in (inT6 (List.mem_of_getElem? (i := 121) rfl)) rfl, kW0_in (inT1 (List.mem_of_getElem? (i := 7) rfl)) rfl, ⟨by decide, by decide⟩, by decide +kernel⟩, kW0_in (inT6 (List.mem_of_getElem? (i := 119) rfl)) rfl, kW0_in (inT6 (List.mem_of_getElem? (i := 120) rfl)) rfl⟩
abbrev m_X6_meetingAt : kMR := (yX6_meetingAt, cX6_meetingAt, 2, (some .int), [])
theorem o_X6_meetingAt : kOkV m_X6_meetingAt 1 := ⟨rfl, ⟨kW0_in (inT6 (List.mem_of_getElem? (i := 125) rfl)) rfl, kW0_in (inT1 (List.mem_of_getElem? (i := 7) rfl)) rfl, ⟨by decide, by decide⟩, by decide +kernel⟩, kW0_in (inT6 (List.mem_of_getElem? (i := 123) rfl)) rfl, kW0_in (inT6 (List.mem_of_getElem? (i := 124) rfl)) rfl⟩
abbrev m_X6_hostOf : kMR := (yX6_hostOf, cX6_hostOf, 2, (some .int), [])
theorem o_X6_hostOf : kOkV m_X6_hostOf 1 := ⟨rfl, ⟨kW0_in (inT6 (List.mem_of_getElem? (i := 129) rfl)) rfl, kW0_in (inT1 (List.mem_of_getElem? (i := 7) rfl)) rfl, ⟨by decide, by decide⟩, by decide +kernel⟩, kW0_in (inT6 (List.mem_of_getElem? (i := 127) rfl)) rfl, kW0_in (inT6 (List.mem_of_getElem? (i := 128) rfl)) rfl⟩
abbrev m_X6_answerOf : kMR := (yX6_answerOf, cX6_answerOf, 3, (some .char), [])
theorem o_X6_answerOf : kOkV m_X6_answerOf 2 := ⟨rfl, ⟨kW0_in (inT6 (List.mem_of_getElem? (i := 133) rfl)) rfl, kW0_in (inT1 (List.mem_of_getElem? (i := 7) rfl)) rfl, ⟨by decide, by decide⟩, by decide +kernel⟩, kW0_in (inT6 (List.mem_of_getElem? (i := 131) rfl)) rfl, kW0_in (inT6 (List.mem_of_getElem? (i := 132) rfl)) rfl⟩
abbrev m_X6_expected : kMR := (yX6_expected, cX6_expected, 2, (some .int), [])
theorem o_X6_expected : kOkV m_X6_expected 1 := ⟨rfl, ⟨kW0_in (inT6 (List.mem_of_getElem? (i := 138) rfl)) rfl, kW0_in (inT1 (List.mem_of_getElem? (i := 7) rfl)) rfl, ⟨by decide, by decide⟩, by decide +kernel⟩, kW0_in (inT6 (List.mem_of_getElem? (i := 136) rfl)) rfl, kW0_in (inT6 (List.mem_of_getElem? (i := 137) rfl)) rfl⟩
abbrev m_X6_dateCount : kMR := (yX6_dateCount, cX6_dateCount, 2, (some .int), [])
theorem o_X6_dateCount : kOkV m_X6_dateCount 1 := ⟨rfl, ⟨kW0_in (inT6 (List.mem_of_getElem? (i := 142) rfl)) rfl, kW0_in (inT1 (List.mem_of_getElem? (i := 7) rfl)) rfl, ⟨by decide, by decide⟩, by decide +kernel⟩, kW0_in (inT6 (List.mem_of_getElem? (i := 140) rfl)) rfl, kW0_in (inT6 (List.mem_of_getElem? (i := 141) rfl)) rfl⟩
abbrev m_X6_dayOf : kMR := (yX6_dayOf, cX6_dayOf, 3, (some .int), [])
theorem o_X6_dayOf : kOkV m_X6_dayOf 2 := ⟨rfl, ⟨kW0_in (inT6 (List.mem_of_getElem? (i := 146) rfl)) rfl, kW0_in (inT1 (List.mem_of_getElem? (i := 7) rfl)) rfl, ⟨by decide, by decide⟩, by decide +kernel⟩, kW0_in (inT6 (List.mem_of_getElem? (i := 144) rfl)) rfl, kW0_in (inT6 (List.mem_of_getElem? (i := 145) rfl)) rfl⟩
abbrev m_X6_timeOf : kMR := (yX6_timeOf, cX6_timeOf, 3, (some .int), [])
theorem o_X6_timeOf : kOkV m_X6_timeOf 2 := ⟨rfl, ⟨kW0_in (inT6 (List.mem_of_getElem? (i := 150) rfl)) rfl, kW0_in (inT1 (List.mem_of_getElem? (i := 7) rfl)) rfl, ⟨by decide, by decide⟩, by decide +kernel⟩, kW0_in (inT6 (List.mem_of_getElem? (i := 148) rfl)) rfl, kW0_in (inT6 (List.mem_of_getElem? (i := 149) rfl)) rfl⟩
abbrev m_X6_isCancelled : kMR := (yX6_isCancelled, cX6_isCancelled, 3, (some .boolean), [])
theorem o_X6_isCancelled : kOkV m_X6_isCancelled 2 := ⟨rfl, ⟨kW0_in (inT6 (List.mem_of_getElem? (i := 154) rfl)) rfl, kW0_in (inT1 (List.mem_of_getElem? (i := 7) rfl)) rfl, ⟨by decide, by decide⟩, by decide +kernel⟩, kW0_in (inT6 (List.mem_of_getElem? (i := 152) rfl)) rfl, kW0_in (inT6 (List.mem_of_getElem? (i := 153) rfl)) rfl⟩
abbrev m_X6_roomOf : kMR := (yX6_roomOf, cX6_roomOf, 3, (some .int), [])
theorem o_X6_roomOf : kOkV m_X6_roomOf 2 := ⟨rfl, ⟨kW0_in (inT6 (List.mem_of_getElem? (i := 158) rfl)) rfl, kW0_in (inT1 (List.mem_of_getElem? (i := 7) rfl)) rfl, ⟨by decide, by decide⟩, by decide +kernel⟩, kW0_in (inT6 (List.mem_of_getElem? (i := 156) rfl)) rfl, kW0_in (inT6 (List.mem_of_getElem? (i := 157) rfl)) rfl⟩
abbrev m_X6_refusalReason : kMR := (yX6_refusalReason, cX6_refusalReason, 1, (some .int), [])
theorem o_X6_refusalReason : kOkV m_X6_refusalReason 0 := ⟨rfl, ⟨kW0_in (inT6 (List.mem_of_getElem? (i := 162) rfl)) rfl, kW0_in (inT1 (List.mem_of_getElem? (i := 7) rfl)) rfl, ⟨by decide, by decide⟩, by decide +kernel⟩, kW0_in (inT6 (List.mem_of_getElem? (i := 160) rfl)) rfl, kW0_in (inT6 (List.mem_of_getElem? (i := 161) rfl)) rfl⟩
abbrev m_X6_refusalDetail : kMR := (yX6_refusalDetail, cX6_refusalDetail, 1, (some .int), [])
theorem o_X6_refusalDetail : kOkV m_X6_refusalDetail 0 := ⟨rfl, ⟨kW0_in (inT6 (List.mem_of_getElem? (i := 166) rfl)) rfl, kW0_in (inT1 (List.mem_of_getElem? (i := 7) rfl)) rfl, ⟨by decide, by decide⟩, by decide +kernel⟩, kW0_in (inT6 (List.mem_of_getElem? (i := 164) rfl)) rfl, kW0_in (inT6 (List.mem_of_getElem? (i := 165) rfl)) rfl⟩
abbrev m_X6_isFreeAt : kMR := (yX6_isFreeAt, cX6_isFreeAt, 4, (some .boolean), [])
theorem o_X6_isFreeAt : kOkV m_X6_isFreeAt 3 := ⟨rfl, ⟨kW0_in (inT6 (List.mem_of_getElem? (i := 177) rfl)) rfl, kW0_in (inT1 (List.mem_of_getElem? (i := 7) rfl)) rfl, ⟨by decide, by decide⟩, by decide +kernel⟩, kW0_in (inT6 (List.mem_of_getElem? (i := 176) rfl)) rfl, kW0_in (List.mem_append_left _ (List.mem_of_getElem? (i := 49) rfl)) rfl⟩
abbrev m_X6_isNoTime : kMR := (yX6_isNoTime, cX6_isNoTime, 3, (some .boolean), [])
theorem o_X6_isNoTime : kOkS m_X6_isNoTime 3 := ⟨⟨kW0_in (inT6 (List.mem_of_getElem? (i := 173) rfl)) rfl, kW0_in (inT1 (List.mem_of_getElem? (i := 7) rfl)) rfl, ⟨by decide, by decide⟩, by decide +kernel⟩, kW0_in (inT6 (List.mem_of_getElem? (i := 172) rfl)) rfl⟩
abbrev m_X6_isFree : kMR := (yX6_isFree, cX6_isFree, 4, (some .boolean), [])
theorem o_X6_isFree : kOkV m_X6_isFree 3 := ⟨rfl, ⟨kW0_in (inT6 (List.mem_of_getElem? (i := 170) rfl)) rfl, kW0_in (inT1 (List.mem_of_getElem? (i := 7) rfl)) rfl, ⟨by decide, by decide⟩, by decide +kernel⟩, kW0_in (inT6 (List.mem_of_getElem? (i := 168) rfl)) rfl, kW0_in (inT6 (List.mem_of_getElem? (i := 169) rfl)) rfl⟩
abbrev m_X6_meetingOf : kMR := (yX6_meetingOf, cX6_meetingOf, 7, (some .int), [])
theorem o_X6_meetingOf : kOkV m_X6_meetingOf 3 := ⟨rfl, ⟨kW0_in (inT6 (List.mem_of_getElem? (i := 181) rfl)) rfl, kW0_in (inT1 (List.mem_of_getElem? (i := 7) rfl)) rfl, ⟨by decide, by decide⟩, by decide +kernel⟩, kW0_in (inT6 (List.mem_of_getElem? (i := 179) rfl)) rfl, kW0_in (inT6 (List.mem_of_getElem? (i := 180) rfl)) rfl⟩
abbrev m_X6_frees : kMR := (yX6_frees, cX6_frees, 5, (some .int), [])
theorem o_X6_frees : kOkV m_X6_frees 2 := ⟨rfl, ⟨kW0_in (inT6 (List.mem_of_getElem? (i := 189) rfl)) rfl, kW0_in (inT1 (List.mem_of_getElem? (i := 7) rfl)) rfl, ⟨by decide, by decide⟩, by decide +kernel⟩, kW0_in (inT6 (List.mem_of_getElem? (i := 188) rfl)) rfl, kW0_in (List.mem_append_left _ (List.mem_of_getElem? (i := 50) rfl)) rfl⟩
abbrev m_X6_freeTimes : kMR := (yX6_freeTimes, cX6_freeTimes, 3, (some .int), [])
theorem o_X6_freeTimes : kOkV m_X6_freeTimes 2 := ⟨rfl, ⟨kW0_in (inT6 (List.mem_of_getElem? (i := 185) rfl)) rfl, kW0_in (inT1 (List.mem_of_getElem? (i := 7) rfl)) rfl, ⟨by decide, by decide⟩, by decide +kernel⟩, kW0_in (inT6 (List.mem_of_getElem? (i := 183) rfl)) rfl, kW0_in (inT6 (List.mem_of_getElem? (i := 184) rfl)) rfl⟩
abbrev m_X6_freeByTrying : kMR := (yX6_freeByTrying, cX6_freeByTrying, 3, (some .int), [])
theorem o_X6_freeByTrying : kOkV m_X6_freeByTrying 2 := ⟨rfl, ⟨kW0_in (inT6 (List.mem_of_getElem? (i := 193) rfl)) rfl, kW0_in (inT1 (List.mem_of_getElem? (i := 7) rfl)) rfl, ⟨by decide, by decide⟩, by decide +kernel⟩, kW0_in (inT6 (List.mem_of_getElem? (i := 191) rfl)) rfl, kW0_in (inT6 (List.mem_of_getElem? (i := 192) rfl)) rfl⟩
abbrev m_X6_longestFree : kMR := (yX6_longestFree, cX6_longestFree, 6, (some .int), [])
theorem o_X6_longestFree : kOkV m_X6_longestFree 2 := ⟨rfl, ⟨kW0_in (inT6 (List.mem_of_getElem? (i := 197) rfl)) rfl, kW0_in (inT1 (List.mem_of_getElem? (i := 7) rfl)) rfl, ⟨by decide, by decide⟩, by decide +kernel⟩, kW0_in (inT6 (List.mem_of_getElem? (i := 195) rfl)) rfl, kW0_in (inT6 (List.mem_of_getElem? (i := 196) rfl)) rfl⟩
abbrev m_X6_isNoPlan : kMR := (yX6_isNoPlan, cX6_isNoPlan, 4, (some .boolean), [])
theorem o_X6_isNoPlan : kOkV m_X6_isNoPlan 3 := ⟨rfl, ⟨kW0_in (inT6 (List.mem_of_getElem? (i := 205) rfl)) rfl, kW0_in (inT1 (List.mem_of_getElem? (i := 7) rfl)) rfl, ⟨by decide, by decide⟩, by decide +kernel⟩, kW0_in (inT6 (List.mem_of_getElem? (i := 204) rfl)) rfl, kW0_in (List.mem_append_left _ (List.mem_of_getElem? (i := 51) rfl)) rfl⟩
abbrev m_X6_roomFound : kMR := (yX6_roomFound, cX6_roomFound, 5, (some .int), [])
theorem o_X6_roomFound : kOkV m_X6_roomFound 4 := ⟨rfl, ⟨kW0_in (inT6 (List.mem_of_getElem? (i := 209) rfl)) rfl, kW0_in (inT1 (List.mem_of_getElem? (i := 7) rfl)) rfl, ⟨by decide, by decide⟩, by decide +kernel⟩, kW0_in (inT6 (List.mem_of_getElem? (i := 208) rfl)) rfl, kW0_in (List.mem_append_left _ (List.mem_of_getElem? (i := 52) rfl)) rfl⟩
abbrev m_X6_firstCommon : kMR := (yX6_firstCommon, cX6_firstCommon, 6, (some .int), [])
theorem o_X6_firstCommon : kOkV m_X6_firstCommon 3 := ⟨rfl, ⟨kW0_in (inT6 (List.mem_of_getElem? (i := 201) rfl)) rfl, kW0_in (inT1 (List.mem_of_getElem? (i := 7) rfl)) rfl, ⟨by decide, by decide⟩, by decide +kernel⟩, kW0_in (inT6 (List.mem_of_getElem? (i := 199) rfl)) rfl, kW0_in (inT6 (List.mem_of_getElem? (i := 200) rfl)) rfl⟩
abbrev m_X6_commonCount : kMR := (yX6_commonCount, cX6_commonCount, 6, (some .int), [])
theorem o_X6_commonCount : kOkV m_X6_commonCount 3 := ⟨rfl, ⟨kW0_in (inT6 (List.mem_of_getElem? (i := 213) rfl)) rfl, kW0_in (inT1 (List.mem_of_getElem? (i := 7) rfl)) rfl, ⟨by decide, by decide⟩, by decide +kernel⟩, kW0_in (inT6 (List.mem_of_getElem? (i := 211) rfl)) rfl, kW0_in (inT6 (List.mem_of_getElem? (i := 212) rfl)) rfl⟩
abbrev m_X6_roomFor : kMR := (yX6_roomFor, cX6_roomFor, 6, (some .int), [])
theorem o_X6_roomFor : kOkV m_X6_roomFor 4 := ⟨rfl, ⟨kW0_in (inT6 (List.mem_of_getElem? (i := 217) rfl)) rfl, kW0_in (inT1 (List.mem_of_getElem? (i := 7) rfl)) rfl, ⟨by decide, by decide⟩, by decide +kernel⟩, kW0_in (inT6 (List.mem_of_getElem? (i := 215) rfl)) rfl, kW0_in (inT6 (List.mem_of_getElem? (i := 216) rfl)) rfl⟩
abbrev m_X6_usedTimes : kMR := (yX6_usedTimes, cX6_usedTimes, 8, (some .int), [])
theorem o_X6_usedTimes : kOkV m_X6_usedTimes 2 := ⟨rfl, ⟨kW0_in (inT6 (List.mem_of_getElem? (i := 221) rfl)) rfl, kW0_in (inT1 (List.mem_of_getElem? (i := 7) rfl)) rfl, ⟨by decide, by decide⟩, by decide +kernel⟩, kW0_in (inT6 (List.mem_of_getElem? (i := 219) rfl)) rfl, kW0_in (inT6 (List.mem_of_getElem? (i := 220) rfl)) rfl⟩
abbrev m_X6_walks : kMR := (yX6_walks, cX6_walks, 9, (some .int), [])
theorem o_X6_walks : kOkV m_X6_walks 2 := ⟨rfl, ⟨kW0_in (inT6 (List.mem_of_getElem? (i := 225) rfl)) rfl, kW0_in (inT1 (List.mem_of_getElem? (i := 7) rfl)) rfl, ⟨by decide, by decide⟩, by decide +kernel⟩, kW0_in (inT6 (List.mem_of_getElem? (i := 223) rfl)) rfl, kW0_in (inT6 (List.mem_of_getElem? (i := 224) rfl)) rfl⟩
abbrev m_X6_sittings : kMR := (yX6_sittings, cX6_sittings, 4, (some .long), [])
theorem o_X6_sittings : kOkV m_X6_sittings 0 := ⟨rfl, ⟨kW0_in (inT6 (List.mem_of_getElem? (i := 229) rfl)) rfl, kW0_in (inT1 (List.mem_of_getElem? (i := 7) rfl)) rfl, ⟨by decide, by decide⟩, by decide +kernel⟩, kW0_in (inT6 (List.mem_of_getElem? (i := 227) rfl)) rfl, kW0_in (inT6 (List.mem_of_getElem? (i := 228) rfl)) rfl⟩
abbrev m_X6_meanExpected : kMR := (yX6_meanExpected, cX6_meanExpected, 3, (some .double), [])
theorem o_X6_meanExpected : kOkV m_X6_meanExpected 0 := ⟨rfl, ⟨kW0_in (inT6 (List.mem_of_getElem? (i := 233) rfl)) rfl, kW0_in (inT1 (List.mem_of_getElem? (i := 7) rfl)) rfl, ⟨by decide, by decide⟩, by decide +kernel⟩, kW0_in (inT6 (List.mem_of_getElem? (i := 231) rfl)) rfl, kW0_in (inT6 (List.mem_of_getElem? (i := 232) rfl)) rfl⟩
abbrev m_X6_yesShare : kMR := (yX6_yesShare, cX6_yesShare, 5, (some .float), [])
theorem o_X6_yesShare : kOkV m_X6_yesShare 0 := ⟨rfl, ⟨kW0_in (inT6 (List.mem_of_getElem? (i := 237) rfl)) rfl, kW0_in (inT1 (List.mem_of_getElem? (i := 7) rfl)) rfl, ⟨by decide, by decide⟩, by decide +kernel⟩, kW0_in (inT6 (List.mem_of_getElem? (i := 235) rfl)) rfl, kW0_in (inT6 (List.mem_of_getElem? (i := 236) rfl)) rfl⟩
abbrev m_X6_isConsistent : kMR := (yX6_isConsistent, cX6_isConsistent, 4, (some .boolean), [])
theorem o_X6_isConsistent : kOkV m_X6_isConsistent 0 := ⟨rfl, ⟨kW0_in (inT7 (List.mem_of_getElem? (i := 1) rfl)) rfl, kW0_in (inT1 (List.mem_of_getElem? (i := 7) rfl)) rfl, ⟨by decide, by decide⟩, by decide +kernel⟩, kW0_in (inT6 (List.mem_of_getElem? (i := 239) rfl)) rfl, kW0_in (inT7 (List.mem_of_getElem? (i := 0) rfl)) rfl⟩
abbrev m_X6_meetsItself : kMR := (yX6_meetsItself, cX6_meetsItself, 6, (some .boolean), [])
theorem o_X6_meetsItself : kOkV m_X6_meetsItself 3 := ⟨rfl, ⟨kW0_in (inT7 (List.mem_of_getElem? (i := 5) rfl)) rfl, kW0_in (inT1 (List.mem_of_getElem? (i := 7) rfl)) rfl, ⟨by decide, by decide⟩, by decide +kernel⟩, kW0_in (inT7 (List.mem_of_getElem? (i := 4) rfl)) rfl, kW0_in (List.mem_append_left _ (List.mem_of_getElem? (i := 53) rfl)) rfl⟩
abbrev m_J6_bitCount_0f7a4 : kMR := (yJ6_bitCount_0f7a4, cJ6_bitCount_0f7a4, 1, (some .int), [])
theorem o_J6_bitCount_0f7a4 : kOkS m_J6_bitCount_0f7a4 1 := ⟨⟨kW0_in (inT1 (List.mem_of_getElem? (i := 171) rfl)) rfl, kW0_in (inT1 (List.mem_of_getElem? (i := 23) rfl)) rfl, ⟨by decide, by decide⟩, by decide +kernel⟩, kW0_in (inT1 (List.mem_of_getElem? (i := 170) rfl)) rfl⟩
abbrev m_J9_max_7cf53 : kMR := (yJ9_max_7cf53, cJ9_max_7cf53, 2, (some .int), [])
theorem o_J9_max_7cf53 : kOkS m_J9_max_7cf53 2 := ⟨⟨kW0_in (inT2 (List.mem_of_getElem? (i := 34) rfl)) rfl, kW0_in (inT1 (List.mem_of_getElem? (i := 16) rfl)) rfl, ⟨by decide, by decide⟩, by decide +kernel⟩, kW0_in (inT2 (List.mem_of_getElem? (i := 33) rfl)) rfl⟩
abbrev m_J9_min_7cf53 : kMR := (yJ9_min_7cf53, cJ9_min_7cf53, 2, (some .int), [])
theorem o_J9_min_7cf53 : kOkS m_J9_min_7cf53 2 := ⟨⟨kW0_in (inT3 (List.mem_of_getElem? (i := 11) rfl)) rfl, kW0_in (inT1 (List.mem_of_getElem? (i := 16) rfl)) rfl, ⟨by decide, by decide⟩, by decide +kernel⟩, kW0_in (inT3 (List.mem_of_getElem? (i := 10) rfl)) rfl⟩
abbrev m_Jxa1e45_init_da8c8 : kMR := (yJxa1e45_init_da8c8, cJxa1e45_init_da8c8, 1, (none), [])
theorem o_Jxa1e45_init_da8c8 : kOkI m_Jxa1e45_init_da8c8 0 := ⟨rfl, rfl, ⟨kW0_in (inT1 (List.mem_of_getElem? (i := 79) rfl)) rfl, kW0_in (inT1 (List.mem_of_getElem? (i := 4) rfl)) rfl, ⟨by decide, by decide⟩, by decide +kernel⟩, rfl, kW0_in (inT1 (List.mem_of_getElem? (i := 78) rfl)) rfl⟩
abbrev m_Jxc12de_init_da8c8 : kMR := (yJxc12de_init_da8c8, cJxc12de_init_da8c8, 1, (none), [])
theorem o_Jxc12de_init_da8c8 : kOkI m_Jxc12de_init_da8c8 0 := ⟨rfl, rfl, ⟨kW0_in (inT1 (List.mem_of_getElem? (i := 76) rfl)) rfl, kW0_in (inT1 (List.mem_of_getElem? (i := 5) rfl)) rfl, ⟨by decide, by decide⟩, by decide +kernel⟩, rfl, kW0_in (inT1 (List.mem_of_getElem? (i := 75) rfl)) rfl⟩
abbrev m_Jx4a65c_init_da8c8 : kMR := (yJx4a65c_init_da8c8, cJx4a65c_init_da8c8, 1, (none), [])
theorem o_Jx4a65c_init_da8c8 : kOkI m_Jx4a65c_init_da8c8 0 := ⟨rfl, rfl, ⟨kW0_in (inT1 (List.mem_of_getElem? (i := 73) rfl)) rfl, kW0_in (inT1 (List.mem_of_getElem? (i := 6) rfl)) rfl, ⟨by decide, by decide⟩, by decide +kernel⟩, rfl, kW0_in (inT1 (List.mem_of_getElem? (i := 72) rfl)) rfl⟩
abbrev m_Jx4a65c_grow_92f84 : kMR := (yJx4a65c_grow_92f84, cJx4a65c_grow_92f84, 4, (some (.array (.object "java/lang/Object"))), [])
theorem o_Jx4a65c_grow_92f84 : kOkV m_Jx4a65c_grow_92f84 1 := ⟨rfl, ⟨kW0_in (inT2 (List.mem_of_getElem? (i := 210) rfl)) rfl, kW0_in (inT1 (List.mem_of_getElem? (i := 6) rfl)) rfl, ⟨by decide, by decide⟩, by decide +kernel⟩, kW0_in (inT2 (List.mem_of_getElem? (i := 209) rfl)) rfl, kW0_in (List.mem_append_left _ (List.mem_of_getElem? (i := 12) rfl)) rfl⟩
abbrev m_Jx4a65c_grow_d5877 : kMR := (yJx4a65c_grow_d5877, cJx4a65c_grow_d5877, 1, (some (.array (.object "java/lang/Object"))), [])
theorem o_Jx4a65c_grow_d5877 : kOkV m_Jx4a65c_grow_d5877 0 := ⟨rfl, ⟨kW0_in (inT2 (List.mem_of_getElem? (i := 206) rfl)) rfl, kW0_in (inT1 (List.mem_of_getElem? (i := 6) rfl)) rfl, ⟨by decide, by decide⟩, by decide +kernel⟩, kW0_in (inT2 (List.mem_of_getElem? (i := 205) rfl)) rfl, kW0_in (List.mem_append_left _ (List.mem_of_getElem? (i := 11) rfl)) rfl⟩
abbrev m_Jx4a65c_size_8abf5 : kMR := (yJx4a65c_size_8abf5, cJx4a65c_size_8abf5, 1, (some .int), [])
theorem o_Jx4a65c_size_8abf5 : kOkV m_Jx4a65c_size_8abf5 0 := ⟨rfl, ⟨kW0_in (inT1 (List.mem_of_getElem? (i := 131) rfl)) rfl, kW0_in (inT1 (List.mem_of_getElem? (i := 6) rfl)) rfl, ⟨by decide, by decide⟩, by decide +kernel⟩, kW0_in (inT1 (List.mem_of_getElem? (i := 129) rfl)) rfl, kW0_in (inT1 (List.mem_of_getElem? (i := 130) rfl)) rfl⟩
abbrev m_Jx4a65c_elementData_915e3 : kMR := (yJx4a65c_elementData_915e3, cJx4a65c_elementData_915e3, 2, (some (.object "java/lang/Object")), [])
theorem o_Jx4a65c_elementData_915e3 : kOkV m_Jx4a65c_elementData_915e3 1 := ⟨rfl, ⟨kW0_in (inT1 (List.mem_of_getElem? (i := 149) rfl)) rfl, kW0_in (inT1 (List.mem_of_getElem? (i := 6) rfl)) rfl, ⟨by decide, by decide⟩, by decide +kernel⟩, kW0_in (inT1 (List.mem_of_getElem? (i := 147) rfl)) rfl, kW0_in (inT1 (List.mem_of_getElem? (i := 148) rfl)) rfl⟩
abbrev m_Jx4a65c_get_915e3 : kMR := (yJx4a65c_get_915e3, cJx4a65c_get_915e3, 2, (some (.object "java/lang/Object")), [])
theorem o_Jx4a65c_get_915e3 : kOkV m_Jx4a65c_get_915e3 1 := ⟨rfl, ⟨kW0_in (inT1 (List.mem_of_getElem? (i := 139) rfl)) rfl, kW0_in (inT1 (List.mem_of_getElem? (i := 6) rfl)) rfl, ⟨by decide, by decide⟩, by decide +kernel⟩, kW0_in (inT1 (List.mem_of_getElem? (i := 137) rfl)) rfl, kW0_in (inT1 (List.mem_of_getElem? (i := 138) rfl)) rfl⟩
abbrev m_Jx4a65c_add_72be8 : kMR := (yJx4a65c_add_72be8, cJx4a65c_add_72be8, 4, (none), [])
theorem o_Jx4a65c_add_72be8 : kOkV m_Jx4a65c_add_72be8 3 := ⟨rfl, ⟨kW0_in (inT2 (List.mem_of_getElem? (i := 202) rfl)) rfl, kW0_in (inT1 (List.mem_of_getElem? (i := 6) rfl)) rfl, ⟨by decide, by decide⟩, by decide +kernel⟩, kW0_in (inT2 (List.mem_of_getElem? (i := 201) rfl)) rfl, kW0_in (List.mem_append_left _ (List.mem_of_getElem? (i := 10) rfl)) rfl⟩
abbrev m_Jx4a65c_add_9ea2d : kMR := (yJx4a65c_add_9ea2d, cJx4a65c_add_9ea2d, 2, (some .boolean), [])
theorem o_Jx4a65c_add_9ea2d : kOkV m_Jx4a65c_add_9ea2d 1 := ⟨rfl, ⟨kW0_in (inT2 (List.mem_of_getElem? (i := 198) rfl)) rfl, kW0_in (inT1 (List.mem_of_getElem? (i := 6) rfl)) rfl, ⟨by decide, by decide⟩, by decide +kernel⟩, kW0_in (inT2 (List.mem_of_getElem? (i := 196) rfl)) rfl, kW0_in (inT2 (List.mem_of_getElem? (i := 197) rfl)) rfl⟩
abbrev m_Jx4a65c_add_7a177 : kMR := (yJx4a65c_add_7a177, cJx4a65c_add_7a177, 5, (none), [])
theorem o_Jx4a65c_add_7a177 : kOkV m_Jx4a65c_add_7a177 2 := ⟨rfl, ⟨kW0_in (inT3 (List.mem_of_getElem? (i := 101) rfl)) rfl, kW0_in (inT1 (List.mem_of_getElem? (i := 6) rfl)) rfl, ⟨by decide, by decide⟩, by decide +kernel⟩, kW0_in (inT3 (List.mem_of_getElem? (i := 99) rfl)) rfl, kW0_in (inT3 (List.mem_of_getElem? (i := 100) rfl)) rfl⟩
abbrev m_Jx4a65c_remove_915e3 : kMR := (yJx4a65c_remove_915e3, cJx4a65c_remove_915e3, 4, (some (.object "java/lang/Object")), [])
theorem o_Jx4a65c_remove_915e3 : kOkV m_Jx4a65c_remove_915e3 1 := ⟨rfl, ⟨kW0_in (inT4 (List.mem_of_getElem? (i := 174) rfl)) rfl, kW0_in (inT1 (List.mem_of_getElem? (i := 6) rfl)) rfl, ⟨by decide, by decide⟩, by decide +kernel⟩, kW0_in (inT4 (List.mem_of_getElem? (i := 172) rfl)) rfl, kW0_in (inT4 (List.mem_of_getElem? (i := 173) rfl)) rfl⟩
abbrev m_Jx4a65c_fastRemove_b59b0 : kMR := (yJx4a65c_fastRemove_b59b0, cJx4a65c_fastRemove_b59b0, 4, (none), [])
theorem o_Jx4a65c_fastRemove_b59b0 : kOkV m_Jx4a65c_fastRemove_b59b0 2 := ⟨rfl, ⟨kW0_in (inT4 (List.mem_of_getElem? (i := 178) rfl)) rfl, kW0_in (inT1 (List.mem_of_getElem? (i := 6) rfl)) rfl, ⟨by decide, by decide⟩, by decide +kernel⟩, kW0_in (inT4 (List.mem_of_getElem? (i := 177) rfl)) rfl, kW0_in (List.mem_append_left _ (List.mem_of_getElem? (i := 25) rfl)) rfl⟩
abbrev m_Jx4a65c_rangeCheckForAdd_d00df : kMR := (yJx4a65c_rangeCheckForAdd_d00df, cJx4a65c_rangeCheckForAdd_d00df, 2, (none), [])
theorem o_Jx4a65c_rangeCheckForAdd_d00df : kOkV m_Jx4a65c_rangeCheckForAdd_d00df 1 := ⟨rfl, ⟨kW0_in (inT3 (List.mem_of_getElem? (i := 105) rfl)) rfl, kW0_in (inT1 (List.mem_of_getElem? (i := 6) rfl)) rfl, ⟨by decide, by decide⟩, by decide +kernel⟩, kW0_in (inT3 (List.mem_of_getElem? (i := 104) rfl)) rfl, kW0_in (List.mem_append_left _ (List.mem_of_getElem? (i := 20) rfl)) rfl⟩
abbrev m_Jx4a65c_outOfBoundsMsg_b52d3 : kMR := (yJx4a65c_outOfBoundsMsg_b52d3, cJx4a65c_outOfBoundsMsg_b52d3, 2, (some (.object "java/lang/String")), [])
theorem o_Jx4a65c_outOfBoundsMsg_b52d3 : kOkV m_Jx4a65c_outOfBoundsMsg_b52d3 1 := ⟨rfl, ⟨kW0_in (inT3 (List.mem_of_getElem? (i := 118) rfl)) rfl, kW0_in (inT1 (List.mem_of_getElem? (i := 6) rfl)) rfl, ⟨by decide, by decide⟩, by decide +kernel⟩, kW0_in (inT3 (List.mem_of_getElem? (i := 117) rfl)) rfl, kW0_in (List.mem_append_left _ (List.mem_of_getElem? (i := 21) rfl)) rfl⟩
abbrev m_J7_copyOf_1904c : kMR := (yJ7_copyOf_1904c, cJ7_copyOf_1904c, 2, (some (.array (.object "java/lang/Object"))), [])
theorem o_J7_copyOf_1904c : kOkS m_J7_copyOf_1904c 2 := ⟨⟨kW0_in (inT2 (List.mem_of_getElem? (i := 221) rfl)) rfl, kW0_in (inT1 (List.mem_of_getElem? (i := 17) rfl)) rfl, ⟨by decide, by decide⟩, by decide +kernel⟩, kW0_in (inT2 (List.mem_of_getElem? (i := 220) rfl)) rfl⟩
abbrev m_J7_copyOf_6403c : kMR := (yJ7_copyOf_6403c, cJ7_copyOf_6403c, 4, (some (.array (.object "java/lang/Object"))), [])
theorem o_J7_copyOf_6403c : kOkS m_J7_copyOf_6403c 3 := ⟨⟨kW0_in (inT3 (List.mem_of_getElem? (i := 5) rfl)) rfl, kW0_in (inT1 (List.mem_of_getElem? (i := 17) rfl)) rfl, ⟨by decide, by decide⟩, by decide +kernel⟩, kW0_in (inT3 (List.mem_of_getElem? (i := 4) rfl)) rfl⟩
abbrev m_J15_checkIndex_7cf53 : kMR := (yJ15_checkIndex_7cf53, cJ15_checkIndex_7cf53, 2, (some .int), [])
theorem o_J15_checkIndex_7cf53 : kOkS m_J15_checkIndex_7cf53 2 := ⟨⟨kW0_in (inT1 (List.mem_of_getElem? (i := 142) rfl)) rfl, kW0_in (inT1 (List.mem_of_getElem? (i := 19) rfl)) rfl, ⟨by decide, by decide⟩, by decide +kernel⟩, kW0_in (inT1 (List.mem_of_getElem? (i := 141) rfl)) rfl⟩
abbrev m_J8_newLength_cabcc : kMR := (yJ8_newLength_cabcc, cJ8_newLength_cabcc, 4, (some .int), [])
theorem o_J8_newLength_cabcc : kOkS m_J8_newLength_cabcc 3 := ⟨⟨kW0_in (inT2 (List.mem_of_getElem? (i := 213) rfl)) rfl, kW0_in (inT1 (List.mem_of_getElem? (i := 15) rfl)) rfl, ⟨by decide, by decide⟩, by decide +kernel⟩, kW0_in (inT2 (List.mem_of_getElem? (i := 212) rfl)) rfl⟩
abbrev m_J3_checkIndex_8e157 : kMR := (yJ3_checkIndex_8e157, cJ3_checkIndex_8e157, 3, (some .int), [])
theorem o_J3_checkIndex_8e157 : kOkS m_J3_checkIndex_8e157 3 := ⟨⟨kW0_in (inT1 (List.mem_of_getElem? (i := 145) rfl)) rfl, kW0_in (inT1 (List.mem_of_getElem? (i := 20) rfl)) rfl, ⟨by decide, by decide⟩, by decide +kernel⟩, kW0_in (inT1 (List.mem_of_getElem? (i := 144) rfl)) rfl⟩
abbrev m_L_setRoom : kMR := (yL_setRoom, cL_setRoom, 6, (some .int), [(0, 12, 15, 13)])
theorem o_L_setRoom : kOkS m_L_setRoom 5 := ⟨⟨kW0_in (inT2 (List.mem_of_getElem? (i := 72) rfl)) rfl, kW0_in (inT1 (List.mem_of_getElem? (i := 0) rfl)) rfl, ⟨by decide, by decide⟩, by decide +kernel⟩, kW0_in (inT2 (List.mem_of_getElem? (i := 71) rfl)) rfl⟩
abbrev m_L_setGap : kMR := (yL_setGap, cL_setGap, 4, (some .int), [(0, 9, 12, 13)])
theorem o_L_setGap : kOkS m_L_setGap 3 := ⟨⟨kW0_in (inT2 (List.mem_of_getElem? (i := 89) rfl)) rfl, kW0_in (inT1 (List.mem_of_getElem? (i := 0) rfl)) rfl, ⟨by decide, by decide⟩, by decide +kernel⟩, kW0_in (inT2 (List.mem_of_getElem? (i := 88) rfl)) rfl⟩
abbrev m_L_seatsOf : kMR := (yL_seatsOf, cL_seatsOf, 4, (some .int), [(0, 9, 12, 13)])
theorem o_L_seatsOf : kOkS m_L_seatsOf 3 := ⟨⟨kW0_in (inT2 (List.mem_of_getElem? (i := 96) rfl)) rfl, kW0_in (inT1 (List.mem_of_getElem? (i := 0) rfl)) rfl, ⟨by decide, by decide⟩, by decide +kernel⟩, kW0_in (inT2 (List.mem_of_getElem? (i := 95) rfl)) rfl⟩
abbrev m_L_houseOf : kMR := (yL_houseOf, cL_houseOf, 4, (some .int), [(0, 9, 12, 13)])
theorem o_L_houseOf : kOkS m_L_houseOf 3 := ⟨⟨kW0_in (inT2 (List.mem_of_getElem? (i := 103) rfl)) rfl, kW0_in (inT1 (List.mem_of_getElem? (i := 0) rfl)) rfl, ⟨by decide, by decide⟩, by decide +kernel⟩, kW0_in (inT2 (List.mem_of_getElem? (i := 102) rfl)) rfl⟩
abbrev m_L_ask : kMR := (yL_ask, cL_ask, 8, (some .int), [(0, 16, 19, 13), (0, 16, 23, 29), (0, 16, 27, 31)])
theorem o_L_ask : kOkS m_L_ask 7 := ⟨⟨kW0_in (inT2 (List.mem_of_getElem? (i := 110) rfl)) rfl, kW0_in (inT1 (List.mem_of_getElem? (i := 0) rfl)) rfl, ⟨by decide, by decide⟩, by decide +kernel⟩, kW0_in (inT2 (List.mem_of_getElem? (i := 109) rfl)) rfl⟩
abbrev m_L_extend : kMR := (yL_extend, cL_extend, 6, (some .int), [(0, 12, 15, 36), (0, 12, 19, 13), (0, 12, 23, 29), (0, 12, 27, 31)])
theorem o_L_extend : kOkS m_L_extend 5 := ⟨⟨kW0_in (inT4 (List.mem_of_getElem? (i := 119) rfl)) rfl, kW0_in (inT1 (List.mem_of_getElem? (i := 0) rfl)) rfl, ⟨by decide, by decide⟩, by decide +kernel⟩, kW0_in (inT4 (List.mem_of_getElem? (i := 118) rfl)) rfl⟩
abbrev m_L_remove : kMR := (yL_remove, cL_remove, 4, (some .int), [(0, 9, 12, 36)])
theorem o_L_remove : kOkS m_L_remove 3 := ⟨⟨kW0_in (inT4 (List.mem_of_getElem? (i := 158) rfl)) rfl, kW0_in (inT1 (List.mem_of_getElem? (i := 0) rfl)) rfl, ⟨by decide, by decide⟩, by decide +kernel⟩, kW0_in (inT4 (List.mem_of_getElem? (i := 157) rfl)) rfl⟩
abbrev m_L_answer : kMR := (yL_answer, cL_answer, 6, (some .int), [(0, 12, 15, 36), (0, 12, 19, 13), (0, 12, 23, 29), (0, 12, 27, 31)])
theorem o_L_answer : kOkS m_L_answer 5 := ⟨⟨kW0_in (inT4 (List.mem_of_getElem? (i := 182) rfl)) rfl, kW0_in (inT1 (List.mem_of_getElem? (i := 0) rfl)) rfl, ⟨by decide, by decide⟩, by decide +kernel⟩, kW0_in (inT4 (List.mem_of_getElem? (i := 181) rfl)) rfl⟩
abbrev m_L_cancel : kMR := (yL_cancel, cL_cancel, 5, (some .int), [(0, 10, 13, 36), (0, 10, 17, 49), (0, 10, 21, 29)])
theorem o_L_cancel : kOkS m_L_cancel 4 := ⟨⟨kW0_in (inT4 (List.mem_of_getElem? (i := 209) rfl)) rfl, kW0_in (inT1 (List.mem_of_getElem? (i := 0) rfl)) rfl, ⟨by decide, by decide⟩, by decide +kernel⟩, kW0_in (inT4 (List.mem_of_getElem? (i := 208) rfl)) rfl⟩
abbrev m_L_move : kMR := (yL_move, cL_move, 7, (some .int), [(0, 14, 17, 36), (0, 14, 21, 49), (0, 14, 25, 13), (0, 14, 29, 31)])
theorem o_L_move : kOkS m_L_move 6 := ⟨⟨kW0_in (inT5 (List.mem_of_getElem? (i := 0) rfl)) rfl, kW0_in (inT1 (List.mem_of_getElem? (i := 0) rfl)) rfl, ⟨by decide, by decide⟩, by decide +kernel⟩, kW0_in (inT4 (List.mem_of_getElem? (i := 239) rfl)) rfl⟩
abbrev m_L_meetingAt : kMR := (yL_meetingAt, cL_meetingAt, 4, (some .int), [(0, 9, 12, 36)])
theorem o_L_meetingAt : kOkS m_L_meetingAt 3 := ⟨⟨kW0_in (inT5 (List.mem_of_getElem? (i := 7) rfl)) rfl, kW0_in (inT1 (List.mem_of_getElem? (i := 0) rfl)) rfl, ⟨by decide, by decide⟩, by decide +kernel⟩, kW0_in (inT5 (List.mem_of_getElem? (i := 6) rfl)) rfl⟩
abbrev m_L_hostOf : kMR := (yL_hostOf, cL_hostOf, 4, (some .int), [(0, 9, 12, 36)])
theorem o_L_hostOf : kOkS m_L_hostOf 3 := ⟨⟨kW0_in (inT5 (List.mem_of_getElem? (i := 15) rfl)) rfl, kW0_in (inT1 (List.mem_of_getElem? (i := 0) rfl)) rfl, ⟨by decide, by decide⟩, by decide +kernel⟩, kW0_in (inT5 (List.mem_of_getElem? (i := 14) rfl)) rfl⟩
abbrev m_L_answerOf : kMR := (yL_answerOf, cL_answerOf, 5, (some .int), [(0, 10, 13, 36), (0, 10, 17, 13)])
theorem o_L_answerOf : kOkS m_L_answerOf 4 := ⟨⟨kW0_in (inT5 (List.mem_of_getElem? (i := 22) rfl)) rfl, kW0_in (inT1 (List.mem_of_getElem? (i := 0) rfl)) rfl, ⟨by decide, by decide⟩, by decide +kernel⟩, kW0_in (inT5 (List.mem_of_getElem? (i := 21) rfl)) rfl⟩
abbrev m_L_expected : kMR := (yL_expected, cL_expected, 4, (some .int), [(0, 9, 12, 36)])
theorem o_L_expected : kOkS m_L_expected 3 := ⟨⟨kW0_in (inT5 (List.mem_of_getElem? (i := 29) rfl)) rfl, kW0_in (inT1 (List.mem_of_getElem? (i := 0) rfl)) rfl, ⟨by decide, by decide⟩, by decide +kernel⟩, kW0_in (inT5 (List.mem_of_getElem? (i := 28) rfl)) rfl⟩
abbrev m_L_dateCount : kMR := (yL_dateCount, cL_dateCount, 4, (some .int), [(0, 9, 12, 36)])
theorem o_L_dateCount : kOkS m_L_dateCount 3 := ⟨⟨kW0_in (inT5 (List.mem_of_getElem? (i := 36) rfl)) rfl, kW0_in (inT1 (List.mem_of_getElem? (i := 0) rfl)) rfl, ⟨by decide, by decide⟩, by decide +kernel⟩, kW0_in (inT5 (List.mem_of_getElem? (i := 35) rfl)) rfl⟩
abbrev m_L_dayOf : kMR := (yL_dayOf, cL_dayOf, 5, (some .int), [(0, 10, 13, 36), (0, 10, 17, 49)])
theorem o_L_dayOf : kOkS m_L_dayOf 4 := ⟨⟨kW0_in (inT5 (List.mem_of_getElem? (i := 43) rfl)) rfl, kW0_in (inT1 (List.mem_of_getElem? (i := 0) rfl)) rfl, ⟨by decide, by decide⟩, by decide +kernel⟩, kW0_in (inT5 (List.mem_of_getElem? (i := 42) rfl)) rfl⟩
abbrev m_L_timeOf : kMR := (yL_timeOf, cL_timeOf, 5, (some .int), [(0, 10, 13, 36), (0, 10, 17, 49)])
theorem o_L_timeOf : kOkS m_L_timeOf 4 := ⟨⟨kW0_in (inT5 (List.mem_of_getElem? (i := 50) rfl)) rfl, kW0_in (inT1 (List.mem_of_getElem? (i := 0) rfl)) rfl, ⟨by decide, by decide⟩, by decide +kernel⟩, kW0_in (inT5 (List.mem_of_getElem? (i := 49) rfl)) rfl⟩
abbrev m_L_isCancelled : kMR := (yL_isCancelled, cL_isCancelled, 5, (some .int), [(0, 17, 20, 36), (0, 17, 24, 49)])
theorem o_L_isCancelled : kOkS m_L_isCancelled 4 := ⟨⟨kW0_in (inT5 (List.mem_of_getElem? (i := 57) rfl)) rfl, kW0_in (inT1 (List.mem_of_getElem? (i := 0) rfl)) rfl, ⟨by decide, by decide⟩, by decide +kernel⟩, kW0_in (inT5 (List.mem_of_getElem? (i := 56) rfl)) rfl⟩
abbrev m_L_roomOf : kMR := (yL_roomOf, cL_roomOf, 5, (some .int), [(0, 10, 13, 36), (0, 10, 17, 49), (0, 10, 21, 29)])
theorem o_L_roomOf : kOkS m_L_roomOf 4 := ⟨⟨kW0_in (inT5 (List.mem_of_getElem? (i := 64) rfl)) rfl, kW0_in (inT1 (List.mem_of_getElem? (i := 0) rfl)) rfl, ⟨by decide, by decide⟩, by decide +kernel⟩, kW0_in (inT5 (List.mem_of_getElem? (i := 63) rfl)) rfl⟩
abbrev m_L_refusalReason : kMR := (yL_refusalReason, cL_refusalReason, 3, (some .int), [(0, 8, 11, 36)])
theorem o_L_refusalReason : kOkS m_L_refusalReason 2 := ⟨⟨kW0_in (inT5 (List.mem_of_getElem? (i := 71) rfl)) rfl, kW0_in (inT1 (List.mem_of_getElem? (i := 0) rfl)) rfl, ⟨by decide, by decide⟩, by decide +kernel⟩, kW0_in (inT5 (List.mem_of_getElem? (i := 70) rfl)) rfl⟩
abbrev m_L_refusalDetail : kMR := (yL_refusalDetail, cL_refusalDetail, 3, (some .int), [(0, 8, 11, 36)])
theorem o_L_refusalDetail : kOkS m_L_refusalDetail 2 := ⟨⟨kW0_in (inT5 (List.mem_of_getElem? (i := 83) rfl)) rfl, kW0_in (inT1 (List.mem_of_getElem? (i := 0) rfl)) rfl, ⟨by decide, by decide⟩, by decide +kernel⟩, kW0_in (inT5 (List.mem_of_getElem? (i := 82) rfl)) rfl⟩
abbrev m_L_isFree : kMR := (yL_isFree, cL_isFree, 6, (some .int), [(0, 19, 22, 13)])
theorem o_L_isFree : kOkS m_L_isFree 5 := ⟨⟨kW0_in (inT5 (List.mem_of_getElem? (i := 90) rfl)) rfl, kW0_in (inT1 (List.mem_of_getElem? (i := 0) rfl)) rfl, ⟨by decide, by decide⟩, by decide +kernel⟩, kW0_in (inT5 (List.mem_of_getElem? (i := 89) rfl)) rfl⟩
abbrev m_L_meetingOf : kMR := (yL_meetingOf, cL_meetingOf, 6, (some .int), [(0, 12, 15, 13), (0, 12, 19, 36)])
theorem o_L_meetingOf : kOkS m_L_meetingOf 5 := ⟨⟨kW0_in (inT5 (List.mem_of_getElem? (i := 97) rfl)) rfl, kW0_in (inT1 (List.mem_of_getElem? (i := 0) rfl)) rfl, ⟨by decide, by decide⟩, by decide +kernel⟩, kW0_in (inT5 (List.mem_of_getElem? (i := 96) rfl)) rfl⟩
abbrev m_L_freeTimes : kMR := (yL_freeTimes, cL_freeTimes, 5, (some .int), [(0, 10, 13, 13)])
theorem o_L_freeTimes : kOkS m_L_freeTimes 4 := ⟨⟨kW0_in (inT5 (List.mem_of_getElem? (i := 105) rfl)) rfl, kW0_in (inT1 (List.mem_of_getElem? (i := 0) rfl)) rfl, ⟨by decide, by decide⟩, by decide +kernel⟩, kW0_in (inT5 (List.mem_of_getElem? (i := 104) rfl)) rfl⟩
abbrev m_L_freeByTrying : kMR := (yL_freeByTrying, cL_freeByTrying, 5, (some .int), [(0, 10, 13, 13)])
theorem o_L_freeByTrying : kOkS m_L_freeByTrying 4 := ⟨⟨kW0_in (inT5 (List.mem_of_getElem? (i := 112) rfl)) rfl, kW0_in (inT1 (List.mem_of_getElem? (i := 0) rfl)) rfl, ⟨by decide, by decide⟩, by decide +kernel⟩, kW0_in (inT5 (List.mem_of_getElem? (i := 111) rfl)) rfl⟩
abbrev m_L_longestFree : kMR := (yL_longestFree, cL_longestFree, 5, (some .int), [(0, 10, 13, 13)])
theorem o_L_longestFree : kOkS m_L_longestFree 4 := ⟨⟨kW0_in (inT5 (List.mem_of_getElem? (i := 119) rfl)) rfl, kW0_in (inT1 (List.mem_of_getElem? (i := 0) rfl)) rfl, ⟨by decide, by decide⟩, by decide +kernel⟩, kW0_in (inT5 (List.mem_of_getElem? (i := 118) rfl)) rfl⟩
abbrev m_L_firstCommon : kMR := (yL_firstCommon, cL_firstCommon, 6, (some .int), [(0, 12, 15, 13), (0, 12, 19, 36)])
theorem o_L_firstCommon : kOkS m_L_firstCommon 5 := ⟨⟨kW0_in (inT5 (List.mem_of_getElem? (i := 126) rfl)) rfl, kW0_in (inT1 (List.mem_of_getElem? (i := 0) rfl)) rfl, ⟨by decide, by decide⟩, by decide +kernel⟩, kW0_in (inT5 (List.mem_of_getElem? (i := 125) rfl)) rfl⟩
abbrev m_L_commonCount : kMR := (yL_commonCount, cL_commonCount, 6, (some .int), [(0, 12, 15, 13)])
theorem o_L_commonCount : kOkS m_L_commonCount 5 := ⟨⟨kW0_in (inT5 (List.mem_of_getElem? (i := 138) rfl)) rfl, kW0_in (inT1 (List.mem_of_getElem? (i := 0) rfl)) rfl, ⟨by decide, by decide⟩, by decide +kernel⟩, kW0_in (inT5 (List.mem_of_getElem? (i := 137) rfl)) rfl⟩
abbrev m_L_roomFor : kMR := (yL_roomFor, cL_roomFor, 7, (some .int), [(0, 14, 17, 13), (0, 14, 21, 36)])
theorem o_L_roomFor : kOkS m_L_roomFor 6 := ⟨⟨kW0_in (inT5 (List.mem_of_getElem? (i := 145) rfl)) rfl, kW0_in (inT1 (List.mem_of_getElem? (i := 0) rfl)) rfl, ⟨by decide, by decide⟩, by decide +kernel⟩, kW0_in (inT5 (List.mem_of_getElem? (i := 144) rfl)) rfl⟩
abbrev m_L_usedTimes : kMR := (yL_usedTimes, cL_usedTimes, 5, (some .int), [(0, 10, 13, 13)])
theorem o_L_usedTimes : kOkS m_L_usedTimes 4 := ⟨⟨kW0_in (inT5 (List.mem_of_getElem? (i := 153) rfl)) rfl, kW0_in (inT1 (List.mem_of_getElem? (i := 0) rfl)) rfl, ⟨by decide, by decide⟩, by decide +kernel⟩, kW0_in (inT5 (List.mem_of_getElem? (i := 152) rfl)) rfl⟩
abbrev m_L_walks : kMR := (yL_walks, cL_walks, 5, (some .int), [(0, 10, 13, 13)])
theorem o_L_walks : kOkS m_L_walks 4 := ⟨⟨kW0_in (inT5 (List.mem_of_getElem? (i := 160) rfl)) rfl, kW0_in (inT1 (List.mem_of_getElem? (i := 0) rfl)) rfl, ⟨by decide, by decide⟩, by decide +kernel⟩, kW0_in (inT5 (List.mem_of_getElem? (i := 159) rfl)) rfl⟩
abbrev m_L_meanExpected : kMR := (yL_meanExpected, cL_meanExpected, 3, (some .int), [(0, 7, 10, 126)])
theorem o_L_meanExpected : kOkS m_L_meanExpected 2 := ⟨⟨kW0_in (inT5 (List.mem_of_getElem? (i := 167) rfl)) rfl, kW0_in (inT1 (List.mem_of_getElem? (i := 0) rfl)) rfl, ⟨by decide, by decide⟩, by decide +kernel⟩, kW0_in (inT5 (List.mem_of_getElem? (i := 166) rfl)) rfl⟩
abbrev m_L_yesShare : kMR := (yL_yesShare, cL_yesShare, 3, (some .int), [(0, 8, 11, 126)])
theorem o_L_yesShare : kOkS m_L_yesShare 2 := ⟨⟨kW0_in (inT5 (List.mem_of_getElem? (i := 191) rfl)) rfl, kW0_in (inT1 (List.mem_of_getElem? (i := 0) rfl)) rfl, ⟨by decide, by decide⟩, by decide +kernel⟩, kW0_in (inT5 (List.mem_of_getElem? (i := 190) rfl)) rfl⟩
theorem lk_RX0_1 : Cond.methodLink RX0 1 Lib.objectInit ∈ kW0 := kW0_in (inT3 (List.mem_of_getElem? (i := 67) rfl)) rfl
theorem fp_RX0_7 : kFp RX0 7 4 0 (.object "CalendaryPlanner$Meeting") true := ⟨RX0, TX0, 4, "CalendaryPlanner$Date", tyX0, rfl, inW_RX0, by decide, kW0_in (inT3 (List.mem_of_getElem? (i := 68) rfl)) rfl, Or.inl rfl, tyX0_ok, nmX0, by decide +kernel, rfl, fun _ => rfl⟩
theorem fp_RX0_13 : kFp RX0 13 4 1 (.object "CalendaryPlanner$Slot") false := ⟨RX0, TX0, 4, "CalendaryPlanner$Date", tyX0, rfl, inW_RX0, by decide, kW0_in (inT3 (List.mem_of_getElem? (i := 70) rfl)) rfl, Or.inl rfl, tyX0_ok, nmX0, by decide +kernel, rfl, (fun h => by cases h)⟩
theorem fp_RX0_17 : kFp RX0 17 4 2 (.object "CalendaryPlanner$Room") false := ⟨RX0, TX0, 4, "CalendaryPlanner$Date", tyX0, rfl, inW_RX0, by decide, kW0_in (inT3 (List.mem_of_getElem? (i := 74) rfl)) rfl, Or.inl rfl, tyX0_ok, nmX0, by decide +kernel, rfl, (fun h => by cases h)⟩
theorem lk_RX1_1 : Cond.methodLink RX1 1 Lib.objectInit ∈ kW0 := kW0_in (inT1 (List.mem_of_getElem? (i := 68) rfl)) rfl
theorem nw_RX1_7 : kNw RX1 7 3 3 [.int 0, .null, .int 0] := ⟨RJx4a65c, TJx4a65c, tyJx4a65c, rfl, inW_RJx4a65c, tyJx4a65c_ok, kW0_in (inT1 (List.mem_of_getElem? (i := 69) rfl)) rfl, kW0_in (inT1 (List.mem_of_getElem? (i := 70) rfl)) rfl, kW0_in (inT1 (List.mem_of_getElem? (i := 6) rfl)) rfl, by decide +kernel⟩
theorem lk_RX1_9 : Cond.methodLink RX1 9 m_Jx4a65c_init_da8c8.1 ∈ kW0 := kW0_in (inT1 (List.mem_of_getElem? (i := 71) rfl)) rfl
theorem fp_RX1_10 : kFp RX1 10 5 0 (.object "java/util/ArrayList") true := ⟨RX1, TX1, 1, "CalendaryPlanner$Day", tyX1, rfl, inW_RX1, by decide, kW0_in (inT1 (List.mem_of_getElem? (i := 95) rfl)) rfl, Or.inl rfl, tyX1_ok, nmX1, by decide +kernel, rfl, fun _ => rfl⟩
theorem fd_RX1_10 : kFd RX1 10 5 0 := ⟨RX1, TX1, 1, "CalendaryPlanner$Day", rfl, inW_RX1, by decide, kW0_in (inT1 (List.mem_of_getElem? (i := 95) rfl)) rfl, Or.inl rfl⟩
theorem lk_RX1_16 : Cond.methodLink RX1 16 m_Jx4a65c_size_8abf5.1 ∈ kW0 := kW0_in (inT3 (List.mem_of_getElem? (i := 95) rfl)) rfl
theorem lk_RX1_20 : Cond.methodLink RX1 20 m_Jx4a65c_get_915e3.1 ∈ kW0 := kW0_in (inT3 (List.mem_of_getElem? (i := 96) rfl)) rfl
theorem cl_RX1_24 : Cond.classLink RX1 24 RX0 ∈ kW0 := kW0_in (inT3 (List.mem_of_getElem? (i := 97) rfl)) rfl
theorem fd_RX1_26 : kFd RX1 26 4 1 := ⟨RX0, TX0, 4, "CalendaryPlanner$Date", rfl, inW_RX0, by decide, kW0_in (inT3 (List.mem_of_getElem? (i := 71) rfl)) rfl, Or.inl rfl⟩
theorem fd_RX1_30 : kFd RX1 30 8 1 := ⟨RX4, TX4, 3, "CalendaryPlanner$Slot", rfl, inW_RX4, by decide, kW0_in (inT2 (List.mem_of_getElem? (i := 183) rfl)) rfl, Or.inl rfl⟩
theorem lk_RX1_36 : Cond.methodLink RX1 36 m_Jx4a65c_add_7a177.1 ∈ kW0 := kW0_in (inT3 (List.mem_of_getElem? (i := 98) rfl)) rfl
theorem lk_RX1_40 : Cond.methodLink RX1 40 m_Jx4a65c_remove_915e3.1 ∈ kW0 := kW0_in (inT4 (List.mem_of_getElem? (i := 171) rfl)) rfl
theorem lk_RX2_3 : Cond.methodLink RX2 3 Lib.objectInit ∈ kW0 := kW0_in (inT2 (List.mem_of_getElem? (i := 146) rfl)) rfl
theorem fp_RX2_9 : kFp RX2 9 6 0 .int true := ⟨RX2, TX2, 6, "CalendaryPlanner$Meeting", tyX2, rfl, inW_RX2, by decide, kW0_in (inT2 (List.mem_of_getElem? (i := 149) rfl)) rfl, Or.inl rfl, tyX2_ok, nmX2, by decide +kernel, rfl, fun _ => rfl⟩
theorem fp_RX2_15 : kFp RX2 15 6 1 .int true := ⟨RX2, TX2, 6, "CalendaryPlanner$Meeting", tyX2, rfl, inW_RX2, by decide, kW0_in (inT2 (List.mem_of_getElem? (i := 151) rfl)) rfl, Or.inl rfl, tyX2_ok, nmX2, by decide +kernel, rfl, fun _ => rfl⟩
theorem fp_RX2_18 : kFp RX2 18 6 2 .int true := ⟨RX2, TX2, 6, "CalendaryPlanner$Meeting", tyX2, rfl, inW_RX2, by decide, kW0_in (inT2 (List.mem_of_getElem? (i := 153) rfl)) rfl, Or.inl rfl, tyX2_ok, nmX2, by decide +kernel, rfl, fun _ => rfl⟩
theorem nw_RX2_21 : kNw RX2 21 3 3 [.int 0, .null, .int 0] := ⟨RJx4a65c, TJx4a65c, tyJx4a65c, rfl, inW_RJx4a65c, tyJx4a65c_ok, kW0_in (inT2 (List.mem_of_getElem? (i := 147) rfl)) rfl, kW0_in (inT1 (List.mem_of_getElem? (i := 70) rfl)) rfl, kW0_in (inT1 (List.mem_of_getElem? (i := 6) rfl)) rfl, by decide +kernel⟩
theorem lk_RX2_23 : Cond.methodLink RX2 23 m_Jx4a65c_init_da8c8.1 ∈ kW0 := kW0_in (inT2 (List.mem_of_getElem? (i := 148) rfl)) rfl
theorem fp_RX2_24 : kFp RX2 24 6 3 (.object "java/util/ArrayList") true := ⟨RX2, TX2, 6, "CalendaryPlanner$Meeting", tyX2, rfl, inW_RX2, by decide, kW0_in (inT2 (List.mem_of_getElem? (i := 155) rfl)) rfl, Or.inl rfl, tyX2_ok, nmX2, by decide +kernel, rfl, fun _ => rfl⟩
theorem fd_RX2_15 : kFd RX2 15 6 1 := ⟨RX2, TX2, 6, "CalendaryPlanner$Meeting", rfl, inW_RX2, by decide, kW0_in (inT2 (List.mem_of_getElem? (i := 151) rfl)) rfl, Or.inl rfl⟩
theorem ln_RX2_28 : (RX2, 28, m_X5_bitOf.1, "CalendaryPlanner") ∈ kNst := by decide +kernel
theorem fd_RX2_18 : kFd RX2 18 6 2 := ⟨RX2, TX2, 6, "CalendaryPlanner$Meeting", rfl, inW_RX2, by decide, kW0_in (inT2 (List.mem_of_getElem? (i := 153) rfl)) rfl, Or.inl rfl⟩
theorem fd_RX2_32 : kFd RX2 32 6 5 := ⟨RX2, TX2, 6, "CalendaryPlanner$Meeting", rfl, inW_RX2, by decide, kW0_in (inT2 (List.mem_of_getElem? (i := 159) rfl)) rfl, Or.inl rfl⟩
theorem lk_RX2_35 : Cond.methodLink RX2 35 m_X2_expectedPeople.1 ∈ kW0 := kW0_in (inT1 (List.mem_of_getElem? (i := 162) rfl)) rfl
theorem lk_RX2_39 : Cond.methodLink RX2 39 m_J6_bitCount_0f7a4.1 ∈ kW0 := kW0_in (inT1 (List.mem_of_getElem? (i := 169) rfl)) rfl
theorem ln_RX2_44 : (RX2, 44, m_X5_holdsPerson.1, "CalendaryPlanner") ∈ kNst := by decide +kernel
theorem fd_RX2_48 : kFd RX2 48 6 4 := ⟨RX2, TX2, 6, "CalendaryPlanner$Meeting", rfl, inW_RX2, by decide, kW0_in (inT2 (List.mem_of_getElem? (i := 157) rfl)) rfl, Or.inl rfl⟩
theorem fp_RX2_48 : kFp RX2 48 6 4 .int false := ⟨RX2, TX2, 6, "CalendaryPlanner$Meeting", tyX2, rfl, inW_RX2, by decide, kW0_in (inT2 (List.mem_of_getElem? (i := 157) rfl)) rfl, Or.inl rfl, tyX2_ok, nmX2, by decide +kernel, rfl, (fun h => by cases h)⟩
theorem fp_RX2_32 : kFp RX2 32 6 5 .int false := ⟨RX2, TX2, 6, "CalendaryPlanner$Meeting", tyX2, rfl, inW_RX2, by decide, kW0_in (inT2 (List.mem_of_getElem? (i := 159) rfl)) rfl, Or.inl rfl, tyX2_ok, nmX2, by decide +kernel, rfl, (fun h => by cases h)⟩
theorem fd_RX2_24 : kFd RX2 24 6 3 := ⟨RX2, TX2, 6, "CalendaryPlanner$Meeting", rfl, inW_RX2, by decide, kW0_in (inT2 (List.mem_of_getElem? (i := 155) rfl)) rfl, Or.inl rfl⟩
theorem lk_RX2_51 : Cond.methodLink RX2 51 m_Jx4a65c_size_8abf5.1 ∈ kW0 := kW0_in (inT1 (List.mem_of_getElem? (i := 155) rfl)) rfl
theorem lk_RX2_54 : Cond.methodLink RX2 54 m_Jx4a65c_get_915e3.1 ∈ kW0 := kW0_in (inT1 (List.mem_of_getElem? (i := 156) rfl)) rfl
theorem cl_RX2_58 : Cond.classLink RX2 58 RX0 ∈ kW0 := kW0_in (inT1 (List.mem_of_getElem? (i := 157) rfl)) rfl
theorem fd_RX2_60 : kFd RX2 60 4 3 := ⟨RX0, TX0, 4, "CalendaryPlanner$Date", rfl, inW_RX0, by decide, kW0_in (inT3 (List.mem_of_getElem? (i := 76) rfl)) rfl, Or.inl rfl⟩
theorem fd_RX2_64 : kFd RX2 64 4 1 := ⟨RX0, TX0, 4, "CalendaryPlanner$Date", rfl, inW_RX0, by decide, kW0_in (inT3 (List.mem_of_getElem? (i := 73) rfl)) rfl, Or.inl rfl⟩
theorem fd_RX2_68 : kFd RX2 68 8 2 := ⟨RX4, TX4, 3, "CalendaryPlanner$Slot", rfl, inW_RX4, by decide, kW0_in (inT2 (List.mem_of_getElem? (i := 187) rfl)) rfl, Or.inl rfl⟩
theorem lk_RX3_1 : Cond.methodLink RX3 1 Lib.objectInit ∈ kW0 := kW0_in (inT1 (List.mem_of_getElem? (i := 48) rfl)) rfl
theorem fp_RX3_7 : kFp RX3 7 7 0 .int true := ⟨RX3, TX3, 3, "CalendaryPlanner$Room", tyX3, rfl, inW_RX3, by decide, kW0_in (inT1 (List.mem_of_getElem? (i := 49) rfl)) rfl, Or.inl rfl, tyX3_ok, nmX3, by decide +kernel, rfl, fun _ => rfl⟩
theorem fp_RX3_13 : kFp RX3 13 7 1 .int false := ⟨RX3, TX3, 3, "CalendaryPlanner$Room", tyX3, rfl, inW_RX3, by decide, kW0_in (inT1 (List.mem_of_getElem? (i := 51) rfl)) rfl, Or.inl rfl, tyX3_ok, nmX3, by decide +kernel, rfl, (fun h => by cases h)⟩
theorem fp_RX3_16 : kFp RX3 16 7 2 .int false := ⟨RX3, TX3, 3, "CalendaryPlanner$Room", tyX3, rfl, inW_RX3, by decide, kW0_in (inT1 (List.mem_of_getElem? (i := 53) rfl)) rfl, Or.inl rfl, tyX3_ok, nmX3, by decide +kernel, rfl, (fun h => by cases h)⟩
theorem lk_RX4_1 : Cond.methodLink RX4 1 Lib.objectInit ∈ kW0 := kW0_in (inT2 (List.mem_of_getElem? (i := 179) rfl)) rfl
theorem fp_RX4_7 : kFp RX4 7 8 0 .int false := ⟨RX4, TX4, 3, "CalendaryPlanner$Slot", tyX4, rfl, inW_RX4, by decide, kW0_in (inT2 (List.mem_of_getElem? (i := 180) rfl)) rfl, Or.inl rfl, tyX4_ok, nmX4, by decide +kernel, rfl, (fun h => by cases h)⟩
theorem fp_RX4_13 : kFp RX4 13 8 1 .int false := ⟨RX4, TX4, 3, "CalendaryPlanner$Slot", tyX4, rfl, inW_RX4, by decide, kW0_in (inT2 (List.mem_of_getElem? (i := 182) rfl)) rfl, Or.inl rfl, tyX4_ok, nmX4, by decide +kernel, rfl, (fun h => by cases h)⟩
theorem fp_RX4_16 : kFp RX4 16 8 2 .int true := ⟨RX4, TX4, 3, "CalendaryPlanner$Slot", tyX4, rfl, inW_RX4, by decide, kW0_in (inT2 (List.mem_of_getElem? (i := 185) rfl)) rfl, Or.inl rfl, tyX4_ok, nmX4, by decide +kernel, rfl, fun _ => rfl⟩
theorem fd_RX4_13 : kFd RX4 13 8 1 := ⟨RX4, TX4, 3, "CalendaryPlanner$Slot", rfl, inW_RX4, by decide, kW0_in (inT2 (List.mem_of_getElem? (i := 182) rfl)) rfl, Or.inl rfl⟩
theorem fd_RX4_16 : kFd RX4 16 8 2 := ⟨RX4, TX4, 3, "CalendaryPlanner$Slot", rfl, inW_RX4, by decide, kW0_in (inT2 (List.mem_of_getElem? (i := 185) rfl)) rfl, Or.inl rfl⟩
theorem lk_RX4_19 : Cond.methodLink RX4 19 m_X4_end.1 ∈ kW0 := kW0_in (inT2 (List.mem_of_getElem? (i := 28) rfl)) rfl
theorem lk_RX4_23 : Cond.methodLink RX4 23 m_J9_max_7cf53.1 ∈ kW0 := kW0_in (inT2 (List.mem_of_getElem? (i := 32) rfl)) rfl
theorem lk_RX5_1 : Cond.methodLink RX5 1 Lib.objectInit ∈ kW0 := kW0_in (inT1 (List.mem_of_getElem? (i := 39) rfl)) rfl
theorem cl_RX5_7 : Cond.classLink RX5 7 "CalendaryPlanner$Room" ∈ kW0 := kW0_in (inT1 (List.mem_of_getElem? (i := 42) rfl)) rfl
theorem nw_RX5_7 : kNw RX5 7 7 3 [.int 0, .int 0, .int 0] := ⟨RX3, TX3, tyX3, rfl, inW_RX3, tyX3_ok, kW0_in (inT1 (List.mem_of_getElem? (i := 42) rfl)) rfl, kW0_in (inT1 (List.mem_of_getElem? (i := 44) rfl)) rfl, kW0_in (inT1 (List.mem_of_getElem? (i := 2) rfl)) rfl, by decide +kernel⟩
theorem lk_RX5_9 : Cond.methodLink RX5 9 m_X3_init.1 ∈ kW0 := kW0_in (inT1 (List.mem_of_getElem? (i := 45) rfl)) rfl
theorem fp_RX5_12 : kFp RX5 12 9 0 (.array (.object "CalendaryPlanner$Room")) true := ⟨RX5, TX5, 7, "CalendaryPlanner", tyX5, rfl, inW_RX5, by decide, kW0_in (inT1 (List.mem_of_getElem? (i := 102) rfl)) rfl, Or.inl rfl, tyX5_ok, nmX5, by decide +kernel, rfl, fun _ => rfl⟩
theorem cl_RX5_18 : Cond.classLink RX5 18 "CalendaryPlanner$Day" ∈ kW0 := kW0_in (inT1 (List.mem_of_getElem? (i := 62) rfl)) rfl
theorem fp_RX5_20 : kFp RX5 20 9 1 (.array (.object "CalendaryPlanner$Day")) true := ⟨RX5, TX5, 7, "CalendaryPlanner", tyX5, rfl, inW_RX5, by decide, kW0_in (inT1 (List.mem_of_getElem? (i := 103) rfl)) rfl, Or.inl rfl, tyX5_ok, nmX5, by decide +kernel, rfl, fun _ => rfl⟩
theorem fd_RX5_20 : kFd RX5 20 9 1 := ⟨RX5, TX5, 7, "CalendaryPlanner", rfl, inW_RX5, by decide, kW0_in (inT1 (List.mem_of_getElem? (i := 103) rfl)) rfl, Or.inl rfl⟩
theorem nw_RX5_18 : kNw RX5 18 5 1 [.null] := ⟨RX1, TX1, tyX1, rfl, inW_RX1, tyX1_ok, kW0_in (inT1 (List.mem_of_getElem? (i := 62) rfl)) rfl, kW0_in (inT1 (List.mem_of_getElem? (i := 64) rfl)) rfl, kW0_in (inT1 (List.mem_of_getElem? (i := 3) rfl)) rfl, by decide +kernel⟩
theorem lk_RX5_24 : Cond.methodLink RX5 24 m_X1_init.1 ∈ kW0 := kW0_in (inT1 (List.mem_of_getElem? (i := 65) rfl)) rfl
theorem nw_RX5_25 : kNw RX5 25 3 3 [.int 0, .null, .int 0] := ⟨RJx4a65c, TJx4a65c, tyJx4a65c, rfl, inW_RJx4a65c, tyJx4a65c_ok, kW0_in (inT1 (List.mem_of_getElem? (i := 100) rfl)) rfl, kW0_in (inT1 (List.mem_of_getElem? (i := 70) rfl)) rfl, kW0_in (inT1 (List.mem_of_getElem? (i := 6) rfl)) rfl, by decide +kernel⟩
theorem lk_RX5_27 : Cond.methodLink RX5 27 m_Jx4a65c_init_da8c8.1 ∈ kW0 := kW0_in (inT1 (List.mem_of_getElem? (i := 101) rfl)) rfl
theorem fp_RX5_28 : kFp RX5 28 9 2 (.object "java/util/ArrayList") true := ⟨RX5, TX5, 7, "CalendaryPlanner", tyX5, rfl, inW_RX5, by decide, kW0_in (inT1 (List.mem_of_getElem? (i := 104) rfl)) rfl, Or.inl rfl, tyX5_ok, nmX5, by decide +kernel, rfl, fun _ => rfl⟩
theorem fp_RX5_32 : kFp RX5 32 9 3 .int false := ⟨RX5, TX5, 7, "CalendaryPlanner", tyX5, rfl, inW_RX5, by decide, kW0_in (inT1 (List.mem_of_getElem? (i := 105) rfl)) rfl, Or.inl rfl, tyX5_ok, nmX5, by decide +kernel, rfl, (fun h => by cases h)⟩
theorem fp_RX5_36 : kFp RX5 36 9 4 .int false := ⟨RX5, TX5, 7, "CalendaryPlanner", tyX5, rfl, inW_RX5, by decide, kW0_in (inT1 (List.mem_of_getElem? (i := 106) rfl)) rfl, Or.inl rfl, tyX5_ok, nmX5, by decide +kernel, rfl, (fun h => by cases h)⟩
theorem fp_RX5_39 : kFp RX5 39 9 5 .int false := ⟨RX5, TX5, 7, "CalendaryPlanner", tyX5, rfl, inW_RX5, by decide, kW0_in (inT1 (List.mem_of_getElem? (i := 107) rfl)) rfl, Or.inl rfl, tyX5_ok, nmX5, by decide +kernel, rfl, (fun h => by cases h)⟩
theorem fp_RX5_42 : kFp RX5 42 9 6 .int false := ⟨RX5, TX5, 7, "CalendaryPlanner", tyX5, rfl, inW_RX5, by decide, kW0_in (inT1 (List.mem_of_getElem? (i := 108) rfl)) rfl, Or.inl rfl, tyX5_ok, nmX5, by decide +kernel, rfl, (fun h => by cases h)⟩
theorem lk_RX5_45 : Cond.methodLink RX5 45 m_X5_roomWith.1 ∈ kW0 := kW0_in (inT2 (List.mem_of_getElem? (i := 78) rfl)) rfl
theorem lk_RX5_49 : Cond.methodLink RX5 49 m_X5_requireWithin.1 ∈ kW0 := kW0_in (inT2 (List.mem_of_getElem? (i := 83) rfl)) rfl
theorem fd_RX5_52 : kFd RX5 52 7 1 := ⟨RX3, TX3, 3, "CalendaryPlanner$Room", rfl, inW_RX3, by decide, kW0_in (inT1 (List.mem_of_getElem? (i := 52) rfl)) rfl, Or.inl rfl⟩
theorem fp_RX5_52 : kFp RX5 52 7 1 .int false := ⟨RX3, TX3, 3, "CalendaryPlanner$Room", tyX3, rfl, inW_RX3, by decide, kW0_in (inT1 (List.mem_of_getElem? (i := 52) rfl)) rfl, Or.inl rfl, tyX3_ok, nmX3, by decide +kernel, rfl, (fun h => by cases h)⟩
theorem fp_RX5_55 : kFp RX5 55 7 2 .int false := ⟨RX3, TX3, 3, "CalendaryPlanner$Room", tyX3, rfl, inW_RX3, by decide, kW0_in (inT1 (List.mem_of_getElem? (i := 54) rfl)) rfl, Or.inl rfl, tyX3_ok, nmX3, by decide +kernel, rfl, (fun h => by cases h)⟩
theorem fd_RX5_32 : kFd RX5 32 9 3 := ⟨RX5, TX5, 7, "CalendaryPlanner", rfl, inW_RX5, by decide, kW0_in (inT1 (List.mem_of_getElem? (i := 105) rfl)) rfl, Or.inl rfl⟩
theorem fd_RX5_55 : kFd RX5 55 7 2 := ⟨RX3, TX3, 3, "CalendaryPlanner$Room", rfl, inW_RX3, by decide, kW0_in (inT1 (List.mem_of_getElem? (i := 54) rfl)) rfl, Or.inl rfl⟩
theorem lk_RX5_58 : Cond.methodLink RX5 58 m_X5_requirePerson.1 ∈ kW0 := kW0_in (inT2 (List.mem_of_getElem? (i := 117) rfl)) rfl
theorem lk_RX5_62 : Cond.methodLink RX5 62 m_X5_requireSlot.1 ∈ kW0 := kW0_in (inT2 (List.mem_of_getElem? (i := 120) rfl)) rfl
theorem fd_RX5_28 : kFd RX5 28 9 2 := ⟨RX5, TX5, 7, "CalendaryPlanner", rfl, inW_RX5, by decide, kW0_in (inT1 (List.mem_of_getElem? (i := 104) rfl)) rfl, Or.inl rfl⟩
theorem lk_RX5_65 : Cond.methodLink RX5 65 m_Jx4a65c_size_8abf5.1 ∈ kW0 := kW0_in (inT1 (List.mem_of_getElem? (i := 128) rfl)) rfl
theorem cl_RX5_69 : Cond.classLink RX5 69 "java/lang/IllegalStateException" ∈ kW0 := kW0_in (inT2 (List.mem_of_getElem? (i := 126) rfl)) rfl
theorem lk_RX5_73 : Cond.methodLink RX5 73 ⟨"java/lang/IllegalStateException", "<init>", "(Ljava/lang/String;)V"⟩ ∈ kW0 := kW0_in (inT2 (List.mem_of_getElem? (i := 136) rfl)) rfl
theorem nw_RX5_76 : kNw RX5 76 6 6 [.int 0, .int 0, .int 0, .null, .int 0, .int 0] := ⟨RX2, TX2, tyX2, rfl, inW_RX2, tyX2_ok, kW0_in (inT1 (List.mem_of_getElem? (i := 150) rfl)) rfl, kW0_in (inT2 (List.mem_of_getElem? (i := 142) rfl)) rfl, kW0_in (inT1 (List.mem_of_getElem? (i := 13) rfl)) rfl, by decide +kernel⟩
theorem fd_RX5_36 : kFd RX5 36 9 4 := ⟨RX5, TX5, 7, "CalendaryPlanner", rfl, inW_RX5, by decide, kW0_in (inT1 (List.mem_of_getElem? (i := 106) rfl)) rfl, Or.inl rfl⟩
theorem lk_RX5_78 : Cond.methodLink RX5 78 m_X5_bitOf.1 ∈ kW0 := kW0_in (inT2 (List.mem_of_getElem? (i := 55) rfl)) rfl
theorem lk_RX5_82 : Cond.methodLink RX5 82 m_X2_init.1 ∈ kW0 := kW0_in (inT2 (List.mem_of_getElem? (i := 143) rfl)) rfl
theorem nw_RX5_83 : kNw RX5 83 8 3 [.int 0, .int 0, .int 0] := ⟨RX4, TX4, tyX4, rfl, inW_RX4, tyX4_ok, kW0_in (inT2 (List.mem_of_getElem? (i := 174) rfl)) rfl, kW0_in (inT2 (List.mem_of_getElem? (i := 175) rfl)) rfl, kW0_in (inT1 (List.mem_of_getElem? (i := 14) rfl)) rfl, by decide +kernel⟩
theorem lk_RX5_85 : Cond.methodLink RX5 85 m_X4_init.1 ∈ kW0 := kW0_in (inT2 (List.mem_of_getElem? (i := 176) rfl)) rfl
theorem lk_RX5_86 : Cond.methodLink RX5 86 m_Jx4a65c_add_9ea2d.1 ∈ kW0 := kW0_in (inT2 (List.mem_of_getElem? (i := 195) rfl)) rfl
theorem lk_RX5_90 : Cond.methodLink RX5 90 m_X5_planDates.1 ∈ kW0 := kW0_in (inT3 (List.mem_of_getElem? (i := 17) rfl)) rfl
theorem fd_RX5_94 : kFd RX5 94 6 0 := ⟨RX2, TX2, 6, "CalendaryPlanner$Meeting", rfl, inW_RX2, by decide, kW0_in (inT2 (List.mem_of_getElem? (i := 150) rfl)) rfl, Or.inl rfl⟩
theorem lk_RX5_97 : Cond.methodLink RX5 97 m_X5_meetingWith.1 ∈ kW0 := kW0_in (inT4 (List.mem_of_getElem? (i := 125) rfl)) rfl
theorem fd_RX5_101 : kFd RX5 101 6 3 := ⟨RX2, TX2, 6, "CalendaryPlanner$Meeting", rfl, inW_RX2, by decide, kW0_in (inT2 (List.mem_of_getElem? (i := 156) rfl)) rfl, Or.inl rfl⟩
theorem lk_RX5_104 : Cond.methodLink RX5 104 m_X5_dateWith.1 ∈ kW0 := kW0_in (inT4 (List.mem_of_getElem? (i := 149) rfl)) rfl
theorem fd_RX5_108 : kFd RX5 108 4 1 := ⟨RX0, TX0, 4, "CalendaryPlanner$Date", rfl, inW_RX0, by decide, kW0_in (inT3 (List.mem_of_getElem? (i := 72) rfl)) rfl, Or.inl rfl⟩
theorem fd_RX5_114 : kFd RX5 114 8 0 := ⟨RX4, TX4, 3, "CalendaryPlanner$Slot", rfl, inW_RX4, by decide, kW0_in (inT2 (List.mem_of_getElem? (i := 181) rfl)) rfl, Or.inl rfl⟩
theorem lk_RX5_117 : Cond.methodLink RX5 117 m_X5_requireDay.1 ∈ kW0 := kW0_in (inT2 (List.mem_of_getElem? (i := 123) rfl)) rfl
theorem fd_RX5_122 : kFd RX5 122 8 1 := ⟨RX4, TX4, 3, "CalendaryPlanner$Slot", rfl, inW_RX4, by decide, kW0_in (inT2 (List.mem_of_getElem? (i := 184) rfl)) rfl, Or.inl rfl⟩
theorem fd_RX5_125 : kFd RX5 125 8 2 := ⟨RX4, TX4, 3, "CalendaryPlanner$Slot", rfl, inW_RX4, by decide, kW0_in (inT2 (List.mem_of_getElem? (i := 186) rfl)) rfl, Or.inl rfl⟩
theorem lk_RX5_128 : Cond.methodLink RX5 128 m_X5_rankOf.1 ∈ kW0 := kW0_in (inT4 (List.mem_of_getElem? (i := 129) rfl)) rfl
theorem lk_RX5_131 : Cond.methodLink RX5 131 m_Jx4a65c_get_915e3.1 ∈ kW0 := kW0_in (inT1 (List.mem_of_getElem? (i := 136) rfl)) rfl
theorem cl_RX5_76 : Cond.classLink RX5 76 RX2 ∈ kW0 := kW0_in (inT1 (List.mem_of_getElem? (i := 150) rfl)) rfl
theorem cl_RX5_109 : Cond.classLink RX5 109 RX0 ∈ kW0 := kW0_in (inT2 (List.mem_of_getElem? (i := 19) rfl)) rfl
theorem lk_RX5_135 : Cond.methodLink RX5 135 m_X5_takeOffItsDay.1 ∈ kW0 := kW0_in (inT4 (List.mem_of_getElem? (i := 163) rfl)) rfl
theorem lk_RX5_139 : Cond.methodLink RX5 139 m_Jx4a65c_remove_915e3.1 ∈ kW0 := kW0_in (inT4 (List.mem_of_getElem? (i := 179) rfl)) rfl
theorem cl_RX5_142 : Cond.classLink RX5 142 "java/lang/IllegalArgumentException" ∈ kW0 := kW0_in (inT1 (List.mem_of_getElem? (i := 187) rfl)) rfl
theorem lk_RX5_146 : Cond.methodLink RX5 146 ⟨"java/lang/IllegalArgumentException", "<init>", "(Ljava/lang/String;)V"⟩ ∈ kW0 := kW0_in (inT1 (List.mem_of_getElem? (i := 233) rfl)) rfl
theorem fd_RX5_147 : kFd RX5 147 6 2 := ⟨RX2, TX2, 6, "CalendaryPlanner$Meeting", rfl, inW_RX2, by decide, kW0_in (inT2 (List.mem_of_getElem? (i := 154) rfl)) rfl, Or.inl rfl⟩
theorem lk_RX5_150 : Cond.methodLink RX5 150 m_X5_holdsPerson.1 ∈ kW0 := kW0_in (inT3 (List.mem_of_getElem? (i := 28) rfl)) rfl
theorem lk_RX5_156 : Cond.methodLink RX5 156 m_X2_answerFrom.1 ∈ kW0 := kW0_in (inT4 (List.mem_of_getElem? (i := 189) rfl)) rfl
theorem lk_RX5_160 : Cond.methodLink RX5 160 m_X5_requireSeatsLeft.1 ∈ kW0 := kW0_in (inT4 (List.mem_of_getElem? (i := 193) rfl)) rfl
theorem lk_RX5_164 : Cond.methodLink RX5 164 m_X5_requireNoClashFor.1 ∈ kW0 := kW0_in (inT4 (List.mem_of_getElem? (i := 198) rfl)) rfl
theorem lk_RX5_168 : Cond.methodLink RX5 168 m_X2_note.1 ∈ kW0 := kW0_in (inT4 (List.mem_of_getElem? (i := 203) rfl)) rfl
theorem lk_RX5_172 : Cond.methodLink RX5 172 m_X5_standingDateWith.1 ∈ kW0 := kW0_in (inT4 (List.mem_of_getElem? (i := 230) rfl)) rfl
theorem fp_RX5_175 : kFp RX5 175 4 3 .boolean false := ⟨RX0, TX0, 4, "CalendaryPlanner$Date", tyX0, rfl, inW_RX0, by decide, kW0_in (inT3 (List.mem_of_getElem? (i := 77) rfl)) rfl, Or.inl rfl, tyX0_ok, nmX0, by decide +kernel, rfl, (fun h => by cases h)⟩
theorem lk_RX5_179 : Cond.methodLink RX5 179 m_X2_standingDates.1 ∈ kW0 := kW0_in (inT4 (List.mem_of_getElem? (i := 234) rfl)) rfl
theorem lk_RX5_182 : Cond.methodLink RX5 182 m_X5_requireNobodyBusy.1 ∈ kW0 := kW0_in (inT3 (List.mem_of_getElem? (i := 21) rfl)) rfl
theorem lk_RX5_186 : Cond.methodLink RX5 186 m_X5_requireRoom.1 ∈ kW0 := kW0_in (inT3 (List.mem_of_getElem? (i := 49) rfl)) rfl
theorem fp_RX5_108 : kFp RX5 108 4 1 (.object "CalendaryPlanner$Slot") false := ⟨RX0, TX0, 4, "CalendaryPlanner$Date", tyX0, rfl, inW_RX0, by decide, kW0_in (inT3 (List.mem_of_getElem? (i := 72) rfl)) rfl, Or.inl rfl, tyX0_ok, nmX0, by decide +kernel, rfl, (fun h => by cases h)⟩
theorem fp_RX5_190 : kFp RX5 190 4 2 (.object "CalendaryPlanner$Room") false := ⟨RX0, TX0, 4, "CalendaryPlanner$Date", tyX0, rfl, inW_RX0, by decide, kW0_in (inT3 (List.mem_of_getElem? (i := 75) rfl)) rfl, Or.inl rfl, tyX0_ok, nmX0, by decide +kernel, rfl, (fun h => by cases h)⟩
theorem lk_RX5_194 : Cond.methodLink RX5 194 m_X5_putOnItsDay.1 ∈ kW0 := kW0_in (inT3 (List.mem_of_getElem? (i := 87) rfl)) rfl
theorem fd_RX5_197 : kFd RX5 197 7 0 := ⟨RX3, TX3, 3, "CalendaryPlanner$Room", rfl, inW_RX3, by decide, kW0_in (inT1 (List.mem_of_getElem? (i := 50) rfl)) rfl, Or.inl rfl⟩
theorem cl_RX5_198 : Cond.classLink RX5 198 "java/util/NoSuchElementException" ∈ kW0 := kW0_in (inT4 (List.mem_of_getElem? (i := 133) rfl)) rfl
theorem lk_RX5_202 : Cond.methodLink RX5 202 ⟨"java/util/NoSuchElementException", "<init>", "(Ljava/lang/String;)V"⟩ ∈ kW0 := kW0_in (inT4 (List.mem_of_getElem? (i := 143) rfl)) rfl
theorem fd_RX5_203 : kFd RX5 203 6 1 := ⟨RX2, TX2, 6, "CalendaryPlanner$Meeting", rfl, inW_RX2, by decide, kW0_in (inT2 (List.mem_of_getElem? (i := 152) rfl)) rfl, Or.inl rfl⟩
theorem lk_RX5_206 : Cond.methodLink RX5 206 m_X2_expectedCount.1 ∈ kW0 := kW0_in (inT1 (List.mem_of_getElem? (i := 158) rfl)) rfl
theorem fd_RX5_175 : kFd RX5 175 4 3 := ⟨RX0, TX0, 4, "CalendaryPlanner$Date", rfl, inW_RX0, by decide, kW0_in (inT3 (List.mem_of_getElem? (i := 77) rfl)) rfl, Or.inl rfl⟩
theorem fd_RX5_190 : kFd RX5 190 4 2 := ⟨RX0, TX0, 4, "CalendaryPlanner$Date", rfl, inW_RX0, by decide, kW0_in (inT3 (List.mem_of_getElem? (i := 75) rfl)) rfl, Or.inl rfl⟩
theorem lk_RX5_209 : Cond.methodLink RX5 209 m_X5_requireRefusal.1 ∈ kW0 := kW0_in (inT5 (List.mem_of_getElem? (i := 76) rfl)) rfl
theorem fd_RX5_39 : kFd RX5 39 9 5 := ⟨RX5, TX5, 7, "CalendaryPlanner", rfl, inW_RX5, by decide, kW0_in (inT1 (List.mem_of_getElem? (i := 107) rfl)) rfl, Or.inl rfl⟩
theorem fd_RX5_42 : kFd RX5 42 9 6 := ⟨RX5, TX5, 7, "CalendaryPlanner", rfl, inW_RX5, by decide, kW0_in (inT1 (List.mem_of_getElem? (i := 108) rfl)) rfl, Or.inl rfl⟩
theorem lk_RX5_212 : Cond.methodLink RX5 212 m_X5_dateOfPersonAt.1 ∈ kW0 := kW0_in (inT2 (List.mem_of_getElem? (i := 62) rfl)) rfl
theorem fd_RX5_218 : kFd RX5 218 4 0 := ⟨RX0, TX0, 4, "CalendaryPlanner$Date", rfl, inW_RX0, by decide, kW0_in (inT3 (List.mem_of_getElem? (i := 69) rfl)) rfl, Or.inl rfl⟩
theorem lk_RX5_222 : Cond.methodLink RX5 222 m_X5_countFreeBySweep.1 ∈ kW0 := kW0_in (inT2 (List.mem_of_getElem? (i := 44) rfl)) rfl
theorem lk_RX5_226 : Cond.methodLink RX5 226 m_X5_countFreeByTrying.1 ∈ kW0 := kW0_in (inT2 (List.mem_of_getElem? (i := 58) rfl)) rfl
theorem lk_RX5_229 : Cond.methodLink RX5 229 m_J9_max_7cf53.1 ∈ kW0 := kW0_in (inT2 (List.mem_of_getElem? (i := 56) rfl)) rfl
theorem fp_RX5_114 : kFp RX5 114 8 0 .int false := ⟨RX4, TX4, 3, "CalendaryPlanner$Slot", tyX4, rfl, inW_RX4, by decide, kW0_in (inT2 (List.mem_of_getElem? (i := 181) rfl)) rfl, Or.inl rfl, tyX4_ok, nmX4, by decide +kernel, rfl, (fun h => by cases h)⟩
theorem fp_RX5_122 : kFp RX5 122 8 1 .int false := ⟨RX4, TX4, 3, "CalendaryPlanner$Slot", tyX4, rfl, inW_RX4, by decide, kW0_in (inT2 (List.mem_of_getElem? (i := 184) rfl)) rfl, Or.inl rfl, tyX4_ok, nmX4, by decide +kernel, rfl, (fun h => by cases h)⟩
theorem lk_RX5_234 : Cond.methodLink RX5 234 m_X5_commonRoom.1 ∈ kW0 := kW0_in (inT5 (List.mem_of_getElem? (i := 131) rfl)) rfl
theorem lk_RX5_242 : Cond.methodLink RX5 242 m_X5_dayWith.1 ∈ kW0 := kW0_in (inT1 (List.mem_of_getElem? (i := 183) rfl)) rfl
theorem fd_RX5_246 : kFd RX5 246 5 0 := ⟨RX1, TX1, 1, "CalendaryPlanner$Day", rfl, inW_RX1, by decide, kW0_in (inT1 (List.mem_of_getElem? (i := 96) rfl)) rfl, Or.inl rfl⟩
theorem lk_RX5_247 : Cond.methodLink RX5 247 m_X2_expects.1 ∈ kW0 := kW0_in (inT2 (List.mem_of_getElem? (i := 48) rfl)) rfl
theorem lk_RX5_251 : Cond.methodLink RX5 251 m_X2_standingTimes.1 ∈ kW0 := kW0_in (inT1 (List.mem_of_getElem? (i := 151) rfl)) rfl
theorem cl_RX5_254 : Cond.classLink RX5 254 "java/lang/ArithmeticException" ∈ kW0 := kW0_in (inT5 (List.mem_of_getElem? (i := 186) rfl)) rfl
theorem lk_RX5_258 : Cond.methodLink RX5 258 ⟨"java/lang/ArithmeticException", "<init>", "(Ljava/lang/String;)V"⟩ ∈ kW0 := kW0_in (inT5 (List.mem_of_getElem? (i := 188) rfl)) rfl
theorem fd_RX5_259 : kFd RX5 259 6 4 := ⟨RX2, TX2, 6, "CalendaryPlanner$Meeting", rfl, inW_RX2, by decide, kW0_in (inT2 (List.mem_of_getElem? (i := 158) rfl)) rfl, Or.inl rfl⟩
theorem lk_RX5_262 : Cond.methodLink RX5 262 m_J6_bitCount_0f7a4.1 ∈ kW0 := kW0_in (inT3 (List.mem_of_getElem? (i := 57) rfl)) rfl
theorem fd_RX5_267 : kFd RX5 267 6 5 := ⟨RX2, TX2, 6, "CalendaryPlanner$Meeting", rfl, inW_RX2, by decide, kW0_in (inT2 (List.mem_of_getElem? (i := 160) rfl)) rfl, Or.inl rfl⟩
theorem lk_RX5_272 : Cond.methodLink RX5 272 m_X5_hasDoubleUse.1 ∈ kW0 := kW0_in (inT1 (List.mem_of_getElem? (i := 179) rfl)) rfl
theorem lk_RX5_275 : Cond.methodLink RX5 275 m_X5_countsAgree.1 ∈ kW0 := kW0_in (inT2 (List.mem_of_getElem? (i := 40) rfl)) rfl
theorem fd_RX5_12 : kFd RX5 12 9 0 := ⟨RX5, TX5, 7, "CalendaryPlanner", rfl, inW_RX5, by decide, kW0_in (inT1 (List.mem_of_getElem? (i := 102) rfl)) rfl, Or.inl rfl⟩
theorem cl_RX5_288 : Cond.classLink RX5 288 "java/lang/IndexOutOfBoundsException" ∈ kW0 := kW0_in (inT4 (List.mem_of_getElem? (i := 152) rfl)) rfl
theorem lk_RX5_292 : Cond.methodLink RX5 292 ⟨"java/lang/IndexOutOfBoundsException", "<init>", "(Ljava/lang/String;)V"⟩ ∈ kW0 := kW0_in (inT4 (List.mem_of_getElem? (i := 154) rfl)) rfl
theorem cl_RX5_83 : Cond.classLink RX5 83 RX4 ∈ kW0 := kW0_in (inT2 (List.mem_of_getElem? (i := 174) rfl)) rfl
theorem nw_RX5_109 : kNw RX5 109 4 4 [.null, .null, .null, .int 0] := ⟨RX0, TX0, tyX0, rfl, inW_RX0, tyX0_ok, kW0_in (inT2 (List.mem_of_getElem? (i := 19) rfl)) rfl, kW0_in (inT3 (List.mem_of_getElem? (i := 63) rfl)) rfl, kW0_in (inT1 (List.mem_of_getElem? (i := 24) rfl)) rfl, by decide +kernel⟩
theorem lk_RX5_295 : Cond.methodLink RX5 295 m_X0_init.1 ∈ kW0 := kW0_in (inT3 (List.mem_of_getElem? (i := 64) rfl)) rfl
theorem lk_RX5_298 : Cond.methodLink RX5 298 m_X1_take.1 ∈ kW0 := kW0_in (inT3 (List.mem_of_getElem? (i := 91) rfl)) rfl
theorem lk_RX5_301 : Cond.methodLink RX5 301 m_X1_drop.1 ∈ kW0 := kW0_in (inT4 (List.mem_of_getElem? (i := 167) rfl)) rfl
theorem lk_RX5_304 : Cond.methodLink RX5 304 m_X5_busyPeople.1 ∈ kW0 := kW0_in (inT2 (List.mem_of_getElem? (i := 20) rfl)) rfl
theorem lk_RX5_308 : Cond.methodLink RX5 308 m_X2_expectedPeople.1 ∈ kW0 := kW0_in (inT2 (List.mem_of_getElem? (i := 35) rfl)) rfl
theorem lk_RX5_311 : Cond.methodLink RX5 311 m_X5_lowestPerson.1 ∈ kW0 := kW0_in (inT3 (List.mem_of_getElem? (i := 25) rfl)) rfl
theorem lk_RX5_314 : Cond.methodLink RX5 314 m_X5_noteRefusal.1 ∈ kW0 := kW0_in (inT3 (List.mem_of_getElem? (i := 29) rfl)) rfl
theorem cl_RX5_318 : Cond.classLink RX5 318 "java/lang/UnsupportedOperationException" ∈ kW0 := kW0_in (inT3 (List.mem_of_getElem? (i := 33) rfl)) rfl
theorem lk_RX5_322 : Cond.methodLink RX5 322 ⟨"java/lang/UnsupportedOperationException", "<init>", "(Ljava/lang/String;)V"⟩ ∈ kW0 := kW0_in (inT3 (List.mem_of_getElem? (i := 43) rfl)) rfl
theorem lk_RX5_323 : Cond.methodLink RX5 323 m_X5_bestRoom.1 ∈ kW0 := kW0_in (inT3 (List.mem_of_getElem? (i := 53) rfl)) rfl
theorem lk_RX5_331 : Cond.methodLink RX5 331 m_X5_wouldClash.1 ∈ kW0 := kW0_in (inT3 (List.mem_of_getElem? (i := 58) rfl)) rfl
theorem lk_RX5_337 : Cond.methodLink RX5 337 m_X4_timesBetween.1 ∈ kW0 := kW0_in (inT2 (List.mem_of_getElem? (i := 24) rfl)) rfl
theorem lk_RX5_341 : Cond.methodLink RX5 341 m_X5_isTaken.1 ∈ kW0 := kW0_in (inT2 (List.mem_of_getElem? (i := 36) rfl)) rfl
theorem lk_RX5_345 : Cond.methodLink RX5 345 m_X4_holds.1 ∈ kW0 := kW0_in (inT2 (List.mem_of_getElem? (i := 66) rfl)) rfl
theorem lk_RX5_348 : Cond.methodLink RX5 348 m_X4_end.1 ∈ kW0 := kW0_in (inT2 (List.mem_of_getElem? (i := 57) rfl)) rfl
theorem lk_RX6_1 : Cond.methodLink RX6 1 Lib.objectInit ∈ kW0 := kW0_in (inT5 (List.mem_of_getElem? (i := 202) rfl)) rfl
theorem fp_RX6_7 : kFp RX6 7 10 0 (.array .int) true := ⟨RX6, TX6, 5, "CalendaryPlannerModel", tyX6, rfl, inW_RX6, by decide, kW0_in (inT5 (List.mem_of_getElem? (i := 203) rfl)) rfl, Or.inl rfl, tyX6_ok, nmX6, by decide +kernel, rfl, fun _ => rfl⟩
theorem fp_RX6_13 : kFp RX6 13 10 2 .int false := ⟨RX6, TX6, 5, "CalendaryPlannerModel", tyX6, rfl, inW_RX6, by decide, kW0_in (inT5 (List.mem_of_getElem? (i := 205) rfl)) rfl, Or.inl rfl, tyX6_ok, nmX6, by decide +kernel, rfl, (fun h => by cases h)⟩
theorem fp_RX6_17 : kFp RX6 17 10 3 .int false := ⟨RX6, TX6, 5, "CalendaryPlannerModel", tyX6, rfl, inW_RX6, by decide, kW0_in (inT5 (List.mem_of_getElem? (i := 206) rfl)) rfl, Or.inl rfl, tyX6_ok, nmX6, by decide +kernel, rfl, (fun h => by cases h)⟩
theorem fp_RX6_20 : kFp RX6 20 10 4 (.array .int) true := ⟨RX6, TX6, 5, "CalendaryPlannerModel", tyX6, rfl, inW_RX6, by decide, kW0_in (inT5 (List.mem_of_getElem? (i := 207) rfl)) rfl, Or.inl rfl, tyX6_ok, nmX6, by decide +kernel, rfl, fun _ => rfl⟩
theorem fd_RX6_7 : kFd RX6 7 10 0 := ⟨RX6, TX6, 5, "CalendaryPlannerModel", rfl, inW_RX6, by decide, kW0_in (inT5 (List.mem_of_getElem? (i := 203) rfl)) rfl, Or.inl rfl⟩
theorem fd_RX6_23 : kFd RX6 23 10 1 := ⟨RX6, TX6, 5, "CalendaryPlannerModel", rfl, inW_RX6, by decide, kW0_in (inT5 (List.mem_of_getElem? (i := 204) rfl)) rfl, Or.inl rfl⟩
theorem fp_RX6_23 : kFp RX6 23 10 1 .int false := ⟨RX6, TX6, 5, "CalendaryPlannerModel", tyX6, rfl, inW_RX6, by decide, kW0_in (inT5 (List.mem_of_getElem? (i := 204) rfl)) rfl, Or.inl rfl, tyX6_ok, nmX6, by decide +kernel, rfl, (fun h => by cases h)⟩
theorem lk_RX6_26 : Cond.methodLink RX6 26 m_X6_in.1 ∈ kW0 := kW0_in (inT5 (List.mem_of_getElem? (i := 231) rfl)) rfl
theorem lk_RX6_30 : Cond.methodLink RX6 30 m_X6_isRoom.1 ∈ kW0 := kW0_in (inT5 (List.mem_of_getElem? (i := 228) rfl)) rfl
theorem lk_RX6_34 : Cond.methodLink RX6 34 m_X6_fails.1 ∈ kW0 := kW0_in (inT5 (List.mem_of_getElem? (i := 234) rfl)) rfl
theorem lk_RX6_37 : Cond.methodLink RX6 37 m_X6_of.1 ∈ kW0 := kW0_in (inT6 (List.mem_of_getElem? (i := 27) rfl)) rfl
theorem lk_RX6_41 : Cond.methodLink RX6 41 m_X6_isExpected.1 ∈ kW0 := kW0_in (inT6 (List.mem_of_getElem? (i := 51) rfl)) rfl
theorem lk_RX6_45 : Cond.methodLink RX6 45 m_X6_date.1 ∈ kW0 := kW0_in (inT6 (List.mem_of_getElem? (i := 39) rfl)) rfl
theorem lk_RX6_49 : Cond.methodLink RX6 49 m_X6_isOn.1 ∈ kW0 := kW0_in (inT6 (List.mem_of_getElem? (i := 35) rfl)) rfl
theorem fd_RX6_13 : kFd RX6 13 10 2 := ⟨RX6, TX6, 5, "CalendaryPlannerModel", rfl, inW_RX6, by decide, kW0_in (inT5 (List.mem_of_getElem? (i := 205) rfl)) rfl, Or.inl rfl⟩
theorem fd_RX6_17 : kFd RX6 17 10 3 := ⟨RX6, TX6, 5, "CalendaryPlannerModel", rfl, inW_RX6, by decide, kW0_in (inT5 (List.mem_of_getElem? (i := 206) rfl)) rfl, Or.inl rfl⟩
theorem lk_RX6_52 : Cond.methodLink RX6 52 m_X6_counts.1 ∈ kW0 := kW0_in (inT6 (List.mem_of_getElem? (i := 31) rfl)) rfl
theorem lk_RX6_55 : Cond.methodLink RX6 55 m_X6_between.1 ∈ kW0 := kW0_in (inT6 (List.mem_of_getElem? (i := 43) rfl)) rfl
theorem lk_RX6_59 : Cond.methodLink RX6 59 m_X6_people.1 ∈ kW0 := kW0_in (inT6 (List.mem_of_getElem? (i := 47) rfl)) rfl
theorem lk_RX6_63 : Cond.methodLink RX6 63 m_X6_many.1 ∈ kW0 := kW0_in (inT6 (List.mem_of_getElem? (i := 67) rfl)) rfl
theorem lk_RX6_66 : Cond.methodLink RX6 66 m_X6_fits.1 ∈ kW0 := kW0_in (inT6 (List.mem_of_getElem? (i := 63) rfl)) rfl
theorem lk_RX6_70 : Cond.methodLink RX6 70 m_X6_lays.1 ∈ kW0 := kW0_in (inT6 (List.mem_of_getElem? (i := 70) rfl)) rfl
theorem lk_RX6_74 : Cond.methodLink RX6 74 m_X6_isPerson.1 ∈ kW0 := kW0_in (inT6 (List.mem_of_getElem? (i := 14) rfl)) rfl
theorem lk_RX6_77 : Cond.methodLink RX6 77 m_X6_isDay.1 ∈ kW0 := kW0_in (inT6 (List.mem_of_getElem? (i := 17) rfl)) rfl
theorem lk_RX6_80 : Cond.methodLink RX6 80 m_X6_isTime.1 ∈ kW0 := kW0_in (inT6 (List.mem_of_getElem? (i := 20) rfl)) rfl
theorem lk_RX6_83 : Cond.methodLink RX6 83 m_X6_busy.1 ∈ kW0 := kW0_in (inT6 (List.mem_of_getElem? (i := 23) rfl)) rfl
theorem lk_RX6_86 : Cond.methodLink RX6 86 m_X6_refuses.1 ∈ kW0 := kW0_in (inT6 (List.mem_of_getElem? (i := 55) rfl)) rfl
theorem lk_RX6_89 : Cond.methodLink RX6 89 m_X6_smallest.1 ∈ kW0 := kW0_in (inT6 (List.mem_of_getElem? (i := 59) rfl)) rfl
theorem lk_RX6_92 : Cond.methodLink RX6 92 m_X6_dates.1 ∈ kW0 := kW0_in (inT6 (List.mem_of_getElem? (i := 74) rfl)) rfl
theorem lk_RX6_96 : Cond.methodLink RX6 96 m_X6_at.1 ∈ kW0 := kW0_in (inT6 (List.mem_of_getElem? (i := 82) rfl)) rfl
theorem fd_RX6_20 : kFd RX6 20 10 4 := ⟨RX6, TX6, 5, "CalendaryPlannerModel", rfl, inW_RX6, by decide, kW0_in (inT5 (List.mem_of_getElem? (i := 207) rfl)) rfl, Or.inl rfl⟩
theorem lk_RX6_99 : Cond.methodLink RX6 99 m_X6_isNone.1 ∈ kW0 := kW0_in (inT6 (List.mem_of_getElem? (i := 90) rfl)) rfl
theorem lk_RX6_102 : Cond.methodLink RX6 102 m_X6_clashes.1 ∈ kW0 := kW0_in (inT6 (List.mem_of_getElem? (i := 102) rfl)) rfl
theorem lk_RX6_105 : Cond.methodLink RX6 105 m_X6_isKeptOut.1 ∈ kW0 := kW0_in (inT6 (List.mem_of_getElem? (i := 98) rfl)) rfl
theorem lk_RX6_108 : Cond.methodLink RX6 108 m_X6_isNoDate.1 ∈ kW0 := kW0_in (inT6 (List.mem_of_getElem? (i := 110) rfl)) rfl
theorem lk_RX6_111 : Cond.methodLink RX6 111 m_X6_hostOf.1 ∈ kW0 := kW0_in (inT6 (List.mem_of_getElem? (i := 134) rfl)) rfl
theorem lk_RX6_114 : Cond.methodLink RX6 114 m_X6_isNoTime.1 ∈ kW0 := kW0_in (inT6 (List.mem_of_getElem? (i := 171) rfl)) rfl
theorem lk_RX6_117 : Cond.methodLink RX6 117 m_X6_isFreeAt.1 ∈ kW0 := kW0_in (inT6 (List.mem_of_getElem? (i := 174) rfl)) rfl
theorem lk_RX6_120 : Cond.methodLink RX6 120 m_X6_frees.1 ∈ kW0 := kW0_in (inT6 (List.mem_of_getElem? (i := 186) rfl)) rfl
theorem lk_RX6_123 : Cond.methodLink RX6 123 m_X6_isNoPlan.1 ∈ kW0 := kW0_in (inT6 (List.mem_of_getElem? (i := 202) rfl)) rfl
theorem lk_RX6_126 : Cond.methodLink RX6 126 m_X6_roomFound.1 ∈ kW0 := kW0_in (inT6 (List.mem_of_getElem? (i := 206) rfl)) rfl
theorem lk_RX6_129 : Cond.methodLink RX6 129 m_X6_meetsItself.1 ∈ kW0 := kW0_in (inT7 (List.mem_of_getElem? (i := 2) rfl)) rfl
theorem lk_RJxa1e45_1 : Cond.methodLink RJxa1e45 1 Lib.objectInit ∈ kW0 := kW0_in (inT1 (List.mem_of_getElem? (i := 80) rfl)) rfl
theorem lk_RJxc12de_1 : Cond.methodLink RJxc12de 1 m_Jxa1e45_init_da8c8.1 ∈ kW0 := kW0_in (inT1 (List.mem_of_getElem? (i := 77) rfl)) rfl
theorem lk_RJx4a65c_1 : Cond.methodLink RJx4a65c 1 m_Jxc12de_init_da8c8.1 ∈ kW0 := kW0_in (inT1 (List.mem_of_getElem? (i := 74) rfl)) rfl
theorem fp_RJx4a65c_9 : kFp RJx4a65c 9 3 1 (.array (.object "java/lang/Object")) false := ⟨RJx4a65c, TJx4a65c, 3, "java/util/ArrayList", tyJx4a65c, rfl, inW_RJx4a65c, by decide, kW0_in (inT1 (List.mem_of_getElem? (i := 83) rfl)) rfl, Or.inl rfl, tyJx4a65c_ok, nmJx4a65c, by decide +kernel, rfl, (fun h => by cases h)⟩
theorem fd_RJx4a65c_9 : kFd RJx4a65c 9 3 1 := ⟨RJx4a65c, TJx4a65c, 3, "java/util/ArrayList", rfl, inW_RJx4a65c, by decide, kW0_in (inT1 (List.mem_of_getElem? (i := 83) rfl)) rfl, Or.inl rfl⟩
theorem lk_RJx4a65c_73 : Cond.methodLink RJx4a65c 73 m_J8_newLength_cabcc.1 ∈ kW0 := kW0_in (inT2 (List.mem_of_getElem? (i := 211) rfl)) rfl
theorem lk_RJx4a65c_66 : Cond.methodLink RJx4a65c 66 m_J7_copyOf_1904c.1 ∈ kW0 := kW0_in (inT2 (List.mem_of_getElem? (i := 219) rfl)) rfl
theorem lk_RJx4a65c_79 : Cond.methodLink RJx4a65c 79 m_J9_max_7cf53.1 ∈ kW0 := kW0_in (inT3 (List.mem_of_getElem? (i := 15) rfl)) rfl
theorem cl_RJx4a65c_7 : Cond.classLink RJx4a65c 7 "java/lang/Object" ∈ kW0 := kW0_in (inT3 (List.mem_of_getElem? (i := 16) rfl)) rfl
theorem fd_RJx4a65c_48 : kFd RJx4a65c 48 3 2 := ⟨RJx4a65c, TJx4a65c, 3, "java/util/ArrayList", rfl, inW_RJx4a65c, by decide, kW0_in (inT1 (List.mem_of_getElem? (i := 84) rfl)) rfl, Or.inl rfl⟩
theorem lk_RJx4a65c_69 : Cond.methodLink RJx4a65c 69 m_Jx4a65c_grow_92f84.1 ∈ kW0 := kW0_in (inT2 (List.mem_of_getElem? (i := 207) rfl)) rfl
theorem lk_RJx4a65c_118 : Cond.methodLink RJx4a65c 118 m_J15_checkIndex_7cf53.1 ∈ kW0 := kW0_in (inT1 (List.mem_of_getElem? (i := 140) rfl)) rfl
theorem lk_RJx4a65c_123 : Cond.methodLink RJx4a65c 123 m_Jx4a65c_elementData_915e3.1 ∈ kW0 := kW0_in (inT1 (List.mem_of_getElem? (i := 146) rfl)) rfl
theorem lk_RJx4a65c_129 : Cond.methodLink RJx4a65c 129 m_Jx4a65c_grow_d5877.1 ∈ kW0 := kW0_in (inT2 (List.mem_of_getElem? (i := 203) rfl)) rfl
theorem fp_RJx4a65c_48 : kFp RJx4a65c 48 3 2 .int false := ⟨RJx4a65c, TJx4a65c, 3, "java/util/ArrayList", tyJx4a65c, rfl, inW_RJx4a65c, by decide, kW0_in (inT1 (List.mem_of_getElem? (i := 84) rfl)) rfl, Or.inl rfl, tyJx4a65c_ok, nmJx4a65c, by decide +kernel, rfl, (fun h => by cases h)⟩
theorem fd_RJx4a65c_63 : kFd RJx4a65c 63 3 0 := ⟨RJx4a65c, TJx4a65c, 3, "java/util/ArrayList", rfl, inW_RJx4a65c, by decide, kW0_in (inT1 (List.mem_of_getElem? (i := 86) rfl)) rfl, Or.inr (kW0_in (inT1 (List.mem_of_getElem? (i := 87) rfl)) rfl)⟩
theorem fp_RJx4a65c_63 : kFp RJx4a65c 63 3 0 .int false := ⟨RJx4a65c, TJx4a65c, 3, "java/util/ArrayList", tyJx4a65c, rfl, inW_RJx4a65c, by decide, kW0_in (inT1 (List.mem_of_getElem? (i := 86) rfl)) rfl, Or.inr (kW0_in (inT1 (List.mem_of_getElem? (i := 87) rfl)) rfl), tyJx4a65c_ok, nmJx4a65c, by decide +kernel, rfl, (fun h => by cases h)⟩
theorem lk_RJx4a65c_131 : Cond.methodLink RJx4a65c 131 m_Jx4a65c_add_72be8.1 ∈ kW0 := kW0_in (inT2 (List.mem_of_getElem? (i := 199) rfl)) rfl
theorem lk_RJx4a65c_135 : Cond.methodLink RJx4a65c 135 m_Jx4a65c_rangeCheckForAdd_d00df.1 ∈ kW0 := kW0_in (inT3 (List.mem_of_getElem? (i := 102) rfl)) rfl
theorem lk_RJx4a65c_112 : Cond.methodLink RJx4a65c 112 ⟨"java/lang/System", "arraycopy", "(Ljava/lang/Object;ILjava/lang/Object;II)V"⟩ ∈ kW0 := kW0_in (inT4 (List.mem_of_getElem? (i := 116) rfl)) rfl
theorem lk_RJx4a65c_144 : Cond.methodLink RJx4a65c 144 m_Jx4a65c_fastRemove_b59b0.1 ∈ kW0 := kW0_in (inT4 (List.mem_of_getElem? (i := 175) rfl)) rfl
theorem cl_RJx4a65c_187 : Cond.classLink RJx4a65c 187 "java/lang/IndexOutOfBoundsException" ∈ kW0 := kW0_in (inT3 (List.mem_of_getElem? (i := 106) rfl)) rfl
theorem lk_RJx4a65c_198 : Cond.methodLink RJx4a65c 198 m_Jx4a65c_outOfBoundsMsg_b52d3.1 ∈ kW0 := kW0_in (inT3 (List.mem_of_getElem? (i := 115) rfl)) rfl
theorem lk_RJx4a65c_193 : Cond.methodLink RJx4a65c 193 ⟨"java/lang/IndexOutOfBoundsException", "<init>", "(Ljava/lang/String;)V"⟩ ∈ kW0 := kW0_in (inT4 (List.mem_of_getElem? (i := 110) rfl)) rfl
theorem lk_RJx4a65c_22 : Cond.methodLink RJx4a65c 22 ⟨"java/lang/StringBuilder", "<init>", "()V"⟩ ∈ kW0 := kW0_in (inT3 (List.mem_of_getElem? (i := 121) rfl)) rfl
theorem lk_RJx4a65c_25 : Cond.methodLink RJx4a65c 25 ⟨"java/lang/StringBuilder", "append", "(Ljava/lang/String;)Ljava/lang/StringBuilder;"⟩ ∈ kW0 := kW0_in (inT3 (List.mem_of_getElem? (i := 151) rfl)) rfl
theorem lk_RJx4a65c_29 : Cond.methodLink RJx4a65c 29 ⟨"java/lang/StringBuilder", "append", "(I)Ljava/lang/StringBuilder;"⟩ ∈ kW0 := kW0_in (inT4 (List.mem_of_getElem? (i := 16) rfl)) rfl
theorem lk_RJx4a65c_32 : Cond.methodLink RJx4a65c 32 ⟨"java/lang/StringBuilder", "toString", "()Ljava/lang/String;"⟩ ∈ kW0 := kW0_in (inT4 (List.mem_of_getElem? (i := 42) rfl)) rfl
theorem lk_RJ7_86 : Cond.methodLink RJ7 86 ⟨"java/lang/Object", "getClass", "()Ljava/lang/Class;"⟩ ∈ kW0 := kW0_in (inT2 (List.mem_of_getElem? (i := 222) rfl)) rfl
theorem lk_RJ7_300 : Cond.methodLink RJ7 300 m_J7_copyOf_6403c.1 ∈ kW0 := kW0_in (inT3 (List.mem_of_getElem? (i := 3) rfl)) rfl
theorem cl_RJ7_2 : Cond.classLink RJ7 2 "java/lang/Object" ∈ kW0 := kW0_in (inT3 (List.mem_of_getElem? (i := 8) rfl)) rfl
theorem cl_RJ7_110 : Cond.classLink RJ7 110 "[Ljava/lang/Object;" ∈ kW0 := kW0_in (inT3 (List.mem_of_getElem? (i := 6) rfl)) rfl
theorem lk_RJ7_304 : Cond.methodLink RJ7 304 m_J9_min_7cf53.1 ∈ kW0 := kW0_in (inT3 (List.mem_of_getElem? (i := 9) rfl)) rfl
theorem lk_RJ7_150 : Cond.methodLink RJ7 150 ⟨"java/lang/System", "arraycopy", "(Ljava/lang/Object;ILjava/lang/Object;II)V"⟩ ∈ kW0 := kW0_in (inT3 (List.mem_of_getElem? (i := 12) rfl)) rfl
theorem lk_RJ15_105 : Cond.methodLink RJ15 105 m_J3_checkIndex_8e157.1 ∈ kW0 := kW0_in (inT1 (List.mem_of_getElem? (i := 143) rfl)) rfl
theorem lk_RJ8_194 : Cond.methodLink RJ8 194 m_J9_max_7cf53.1 ∈ kW0 := kW0_in (inT2 (List.mem_of_getElem? (i := 214) rfl)) rfl
theorem lk_RJ8_201 : Cond.methodLink RJ8 201 ⟨"jdk/internal/util/ArraysSupport", "hugeLength", "(II)I"⟩ ∈ kW0 := kW0_in (inT2 (List.mem_of_getElem? (i := 216) rfl)) rfl
theorem lk_RL_7 : Cond.methodLink RL 7 m_X5_setRoom.1 ∈ kW0 := kW0_in (inT2 (List.mem_of_getElem? (i := 74) rfl)) rfl
theorem lk_RL_15 : Cond.methodLink RL 15 m_X5_setGap.1 ∈ kW0 := kW0_in (inT2 (List.mem_of_getElem? (i := 90) rfl)) rfl
theorem lk_RL_19 : Cond.methodLink RL 19 m_X5_seatsOf.1 ∈ kW0 := kW0_in (inT2 (List.mem_of_getElem? (i := 97) rfl)) rfl
theorem lk_RL_22 : Cond.methodLink RL 22 m_X5_houseOf.1 ∈ kW0 := kW0_in (inT2 (List.mem_of_getElem? (i := 104) rfl)) rfl
theorem lk_RL_25 : Cond.methodLink RL 25 m_X5_ask.1 ∈ kW0 := kW0_in (inT2 (List.mem_of_getElem? (i := 113) rfl)) rfl
theorem lk_RL_33 : Cond.methodLink RL 33 m_X5_extend.1 ∈ kW0 := kW0_in (inT4 (List.mem_of_getElem? (i := 121) rfl)) rfl
theorem lk_RL_38 : Cond.methodLink RL 38 m_X5_remove.1 ∈ kW0 := kW0_in (inT4 (List.mem_of_getElem? (i := 159) rfl)) rfl
theorem lk_RL_41 : Cond.methodLink RL 41 m_X5_answer.1 ∈ kW0 := kW0_in (inT4 (List.mem_of_getElem? (i := 183) rfl)) rfl
theorem lk_RL_45 : Cond.methodLink RL 45 m_X5_cancel.1 ∈ kW0 := kW0_in (inT4 (List.mem_of_getElem? (i := 226) rfl)) rfl
theorem lk_RL_51 : Cond.methodLink RL 51 m_X5_move.1 ∈ kW0 := kW0_in (inT5 (List.mem_of_getElem? (i := 1) rfl)) rfl
theorem lk_RL_55 : Cond.methodLink RL 55 m_X5_meetingAt.1 ∈ kW0 := kW0_in (inT5 (List.mem_of_getElem? (i := 8) rfl)) rfl
theorem lk_RL_58 : Cond.methodLink RL 58 m_X5_hostOf.1 ∈ kW0 := kW0_in (inT5 (List.mem_of_getElem? (i := 16) rfl)) rfl
theorem lk_RL_61 : Cond.methodLink RL 61 m_X5_answerOf.1 ∈ kW0 := kW0_in (inT5 (List.mem_of_getElem? (i := 23) rfl)) rfl
theorem lk_RL_65 : Cond.methodLink RL 65 m_X5_expected.1 ∈ kW0 := kW0_in (inT5 (List.mem_of_getElem? (i := 30) rfl)) rfl
theorem lk_RL_68 : Cond.methodLink RL 68 m_X5_dateCount.1 ∈ kW0 := kW0_in (inT5 (List.mem_of_getElem? (i := 37) rfl)) rfl
theorem lk_RL_71 : Cond.methodLink RL 71 m_X5_dayOf.1 ∈ kW0 := kW0_in (inT5 (List.mem_of_getElem? (i := 44) rfl)) rfl
theorem lk_RL_74 : Cond.methodLink RL 74 m_X5_timeOf.1 ∈ kW0 := kW0_in (inT5 (List.mem_of_getElem? (i := 51) rfl)) rfl
theorem lk_RL_77 : Cond.methodLink RL 77 m_X5_isCancelled.1 ∈ kW0 := kW0_in (inT5 (List.mem_of_getElem? (i := 58) rfl)) rfl
theorem lk_RL_81 : Cond.methodLink RL 81 m_X5_roomOf.1 ∈ kW0 := kW0_in (inT5 (List.mem_of_getElem? (i := 65) rfl)) rfl
theorem lk_RL_84 : Cond.methodLink RL 84 m_X5_refusalReason.1 ∈ kW0 := kW0_in (inT5 (List.mem_of_getElem? (i := 72) rfl)) rfl
theorem lk_RL_88 : Cond.methodLink RL 88 m_X5_refusalDetail.1 ∈ kW0 := kW0_in (inT5 (List.mem_of_getElem? (i := 84) rfl)) rfl
theorem lk_RL_91 : Cond.methodLink RL 91 m_X5_isFree.1 ∈ kW0 := kW0_in (inT5 (List.mem_of_getElem? (i := 91) rfl)) rfl
theorem lk_RL_95 : Cond.methodLink RL 95 m_X5_meetingOf.1 ∈ kW0 := kW0_in (inT5 (List.mem_of_getElem? (i := 98) rfl)) rfl
theorem lk_RL_98 : Cond.methodLink RL 98 m_X5_freeTimes.1 ∈ kW0 := kW0_in (inT5 (List.mem_of_getElem? (i := 106) rfl)) rfl
theorem lk_RL_101 : Cond.methodLink RL 101 m_X5_freeByTrying.1 ∈ kW0 := kW0_in (inT5 (List.mem_of_getElem? (i := 113) rfl)) rfl
theorem lk_RL_104 : Cond.methodLink RL 104 m_X5_longestFree.1 ∈ kW0 := kW0_in (inT5 (List.mem_of_getElem? (i := 120) rfl)) rfl
theorem lk_RL_107 : Cond.methodLink RL 107 m_X5_firstCommon.1 ∈ kW0 := kW0_in (inT5 (List.mem_of_getElem? (i := 127) rfl)) rfl
theorem lk_RL_110 : Cond.methodLink RL 110 m_X5_commonCount.1 ∈ kW0 := kW0_in (inT5 (List.mem_of_getElem? (i := 139) rfl)) rfl
theorem lk_RL_113 : Cond.methodLink RL 113 m_X5_roomFor.1 ∈ kW0 := kW0_in (inT5 (List.mem_of_getElem? (i := 146) rfl)) rfl
theorem lk_RL_116 : Cond.methodLink RL 116 m_X5_usedTimes.1 ∈ kW0 := kW0_in (inT5 (List.mem_of_getElem? (i := 154) rfl)) rfl
theorem lk_RL_119 : Cond.methodLink RL 119 m_X5_walks.1 ∈ kW0 := kW0_in (inT5 (List.mem_of_getElem? (i := 161) rfl)) rfl
theorem lk_RL_122 : Cond.methodLink RL 122 m_X5_meanExpected.1 ∈ kW0 := kW0_in (inT5 (List.mem_of_getElem? (i := 182) rfl)) rfl
theorem lk_RL_128 : Cond.methodLink RL 128 m_X5_yesShare.1 ∈ kW0 := kW0_in (inT5 (List.mem_of_getElem? (i := 192) rfl)) rfl
theorem nw_RL_8 : kNw RL 8 9 7 [.null, .null, .null, .int 0, .int 0, .int 0, .int 0] := ⟨RX5, TX5, tyX5, rfl, inW_RX5, tyX5_ok, kW0_in (inT1 (List.mem_of_getElem? (i := 34) rfl)) rfl, kW0_in (inT1 (List.mem_of_getElem? (i := 35) rfl)) rfl, kW0_in (inT1 (List.mem_of_getElem? (i := 1) rfl)) rfl, by decide +kernel⟩
theorem lk_RL_132 : Cond.methodLink RL 132 m_X5_init.1 ∈ kW0 := kW0_in (inT1 (List.mem_of_getElem? (i := 36) rfl)) rfl
theorem nw_RL_133 : kNw RL 133 10 5 [.null, .int 0, .int 0, .int 0, .null] := ⟨RX6, TX6, tyX6, rfl, inW_RX6, tyX6_ok, kW0_in (inT5 (List.mem_of_getElem? (i := 197) rfl)) rfl, kW0_in (inT5 (List.mem_of_getElem? (i := 198) rfl)) rfl, kW0_in (inT1 (List.mem_of_getElem? (i := 7) rfl)) rfl, by decide +kernel⟩
theorem lk_RL_135 : Cond.methodLink RL 135 m_X6_init.1 ∈ kW0 := kW0_in (inT5 (List.mem_of_getElem? (i := 199) rfl)) rfl
theorem lk_RL_136 : Cond.methodLink RL 136 m_L_setRoom.1 ∈ kW0 := kW0_in (inT2 (List.mem_of_getElem? (i := 70) rfl)) rfl
theorem lk_RL_141 : Cond.methodLink RL 141 m_X6_setRoom.1 ∈ kW0 := kW0_in (inT5 (List.mem_of_getElem? (i := 224) rfl)) rfl
theorem lk_RL_142 : Cond.methodLink RL 142 m_X6_thrown.1 ∈ kW0 := kW0_in (inT5 (List.mem_of_getElem? (i := 220) rfl)) rfl
theorem lk_RL_145 : Cond.methodLink RL 145 m_L_setGap.1 ∈ kW0 := kW0_in (inT2 (List.mem_of_getElem? (i := 87) rfl)) rfl
theorem lk_RL_148 : Cond.methodLink RL 148 m_X6_setGap.1 ∈ kW0 := kW0_in (inT5 (List.mem_of_getElem? (i := 238) rfl)) rfl
theorem lk_RL_149 : Cond.methodLink RL 149 m_L_seatsOf.1 ∈ kW0 := kW0_in (inT2 (List.mem_of_getElem? (i := 94) rfl)) rfl
theorem lk_RL_151 : Cond.methodLink RL 151 m_X6_seatsOf.1 ∈ kW0 := kW0_in (inT6 (List.mem_of_getElem? (i := 2) rfl)) rfl
theorem lk_RL_152 : Cond.methodLink RL 152 m_L_houseOf.1 ∈ kW0 := kW0_in (inT2 (List.mem_of_getElem? (i := 101) rfl)) rfl
theorem lk_RL_154 : Cond.methodLink RL 154 m_X6_houseOf.1 ∈ kW0 := kW0_in (inT6 (List.mem_of_getElem? (i := 6) rfl)) rfl
theorem lk_RL_155 : Cond.methodLink RL 155 m_L_ask.1 ∈ kW0 := kW0_in (inT2 (List.mem_of_getElem? (i := 108) rfl)) rfl
theorem lk_RL_158 : Cond.methodLink RL 158 m_X6_ask.1 ∈ kW0 := kW0_in (inT6 (List.mem_of_getElem? (i := 10) rfl)) rfl
theorem lk_RL_159 : Cond.methodLink RL 159 m_L_extend.1 ∈ kW0 := kW0_in (inT4 (List.mem_of_getElem? (i := 117) rfl)) rfl
theorem lk_RL_161 : Cond.methodLink RL 161 m_X6_extend.1 ∈ kW0 := kW0_in (inT6 (List.mem_of_getElem? (i := 78) rfl)) rfl
theorem lk_RL_162 : Cond.methodLink RL 162 m_L_remove.1 ∈ kW0 := kW0_in (inT4 (List.mem_of_getElem? (i := 156) rfl)) rfl
theorem lk_RL_164 : Cond.methodLink RL 164 m_X6_remove.1 ∈ kW0 := kW0_in (inT6 (List.mem_of_getElem? (i := 86) rfl)) rfl
theorem lk_RL_165 : Cond.methodLink RL 165 m_L_answer.1 ∈ kW0 := kW0_in (inT4 (List.mem_of_getElem? (i := 180) rfl)) rfl
theorem lk_RL_168 : Cond.methodLink RL 168 m_X6_answer.1 ∈ kW0 := kW0_in (inT6 (List.mem_of_getElem? (i := 94) rfl)) rfl
theorem lk_RL_169 : Cond.methodLink RL 169 m_L_cancel.1 ∈ kW0 := kW0_in (inT4 (List.mem_of_getElem? (i := 207) rfl)) rfl
theorem lk_RL_172 : Cond.methodLink RL 172 m_X6_cancel.1 ∈ kW0 := kW0_in (inT6 (List.mem_of_getElem? (i := 106) rfl)) rfl
theorem lk_RL_173 : Cond.methodLink RL 173 m_L_move.1 ∈ kW0 := kW0_in (inT4 (List.mem_of_getElem? (i := 238) rfl)) rfl
theorem lk_RL_176 : Cond.methodLink RL 176 m_X6_move.1 ∈ kW0 := kW0_in (inT6 (List.mem_of_getElem? (i := 114) rfl)) rfl
theorem lk_RL_177 : Cond.methodLink RL 177 m_X5_meetingCount.1 ∈ kW0 := kW0_in (inT1 (List.mem_of_getElem? (i := 124) rfl)) rfl
theorem lk_RL_180 : Cond.methodLink RL 180 m_X6_meetingCount.1 ∈ kW0 := kW0_in (inT6 (List.mem_of_getElem? (i := 118) rfl)) rfl
theorem lk_RL_181 : Cond.methodLink RL 181 m_L_meetingAt.1 ∈ kW0 := kW0_in (inT5 (List.mem_of_getElem? (i := 5) rfl)) rfl
theorem lk_RL_183 : Cond.methodLink RL 183 m_X6_meetingAt.1 ∈ kW0 := kW0_in (inT6 (List.mem_of_getElem? (i := 122) rfl)) rfl
theorem lk_RL_184 : Cond.methodLink RL 184 m_L_hostOf.1 ∈ kW0 := kW0_in (inT5 (List.mem_of_getElem? (i := 13) rfl)) rfl
theorem lk_RL_186 : Cond.methodLink RL 186 m_X6_hostOf.1 ∈ kW0 := kW0_in (inT6 (List.mem_of_getElem? (i := 126) rfl)) rfl
theorem lk_RL_187 : Cond.methodLink RL 187 m_L_answerOf.1 ∈ kW0 := kW0_in (inT5 (List.mem_of_getElem? (i := 20) rfl)) rfl
theorem lk_RL_189 : Cond.methodLink RL 189 m_X6_answerOf.1 ∈ kW0 := kW0_in (inT6 (List.mem_of_getElem? (i := 130) rfl)) rfl
theorem lk_RL_190 : Cond.methodLink RL 190 m_L_expected.1 ∈ kW0 := kW0_in (inT5 (List.mem_of_getElem? (i := 27) rfl)) rfl
theorem lk_RL_192 : Cond.methodLink RL 192 m_X6_expected.1 ∈ kW0 := kW0_in (inT6 (List.mem_of_getElem? (i := 135) rfl)) rfl
theorem lk_RL_193 : Cond.methodLink RL 193 m_L_dateCount.1 ∈ kW0 := kW0_in (inT5 (List.mem_of_getElem? (i := 34) rfl)) rfl
theorem lk_RL_195 : Cond.methodLink RL 195 m_X6_dateCount.1 ∈ kW0 := kW0_in (inT6 (List.mem_of_getElem? (i := 139) rfl)) rfl
theorem lk_RL_196 : Cond.methodLink RL 196 m_L_dayOf.1 ∈ kW0 := kW0_in (inT5 (List.mem_of_getElem? (i := 41) rfl)) rfl
theorem lk_RL_198 : Cond.methodLink RL 198 m_X6_dayOf.1 ∈ kW0 := kW0_in (inT6 (List.mem_of_getElem? (i := 143) rfl)) rfl
theorem lk_RL_199 : Cond.methodLink RL 199 m_L_timeOf.1 ∈ kW0 := kW0_in (inT5 (List.mem_of_getElem? (i := 48) rfl)) rfl
theorem lk_RL_201 : Cond.methodLink RL 201 m_X6_timeOf.1 ∈ kW0 := kW0_in (inT6 (List.mem_of_getElem? (i := 147) rfl)) rfl
theorem lk_RL_202 : Cond.methodLink RL 202 m_L_isCancelled.1 ∈ kW0 := kW0_in (inT5 (List.mem_of_getElem? (i := 55) rfl)) rfl
theorem lk_RL_204 : Cond.methodLink RL 204 m_X6_isCancelled.1 ∈ kW0 := kW0_in (inT6 (List.mem_of_getElem? (i := 151) rfl)) rfl
theorem lk_RL_205 : Cond.methodLink RL 205 m_L_roomOf.1 ∈ kW0 := kW0_in (inT5 (List.mem_of_getElem? (i := 62) rfl)) rfl
theorem lk_RL_207 : Cond.methodLink RL 207 m_X6_roomOf.1 ∈ kW0 := kW0_in (inT6 (List.mem_of_getElem? (i := 155) rfl)) rfl
theorem lk_RL_208 : Cond.methodLink RL 208 m_L_refusalReason.1 ∈ kW0 := kW0_in (inT5 (List.mem_of_getElem? (i := 69) rfl)) rfl
theorem lk_RL_211 : Cond.methodLink RL 211 m_X6_refusalReason.1 ∈ kW0 := kW0_in (inT6 (List.mem_of_getElem? (i := 159) rfl)) rfl
theorem lk_RL_212 : Cond.methodLink RL 212 m_L_refusalDetail.1 ∈ kW0 := kW0_in (inT5 (List.mem_of_getElem? (i := 81) rfl)) rfl
theorem lk_RL_214 : Cond.methodLink RL 214 m_X6_refusalDetail.1 ∈ kW0 := kW0_in (inT6 (List.mem_of_getElem? (i := 163) rfl)) rfl
theorem lk_RL_215 : Cond.methodLink RL 215 m_L_isFree.1 ∈ kW0 := kW0_in (inT5 (List.mem_of_getElem? (i := 88) rfl)) rfl
theorem lk_RL_217 : Cond.methodLink RL 217 m_X6_isFree.1 ∈ kW0 := kW0_in (inT6 (List.mem_of_getElem? (i := 167) rfl)) rfl
theorem lk_RL_218 : Cond.methodLink RL 218 m_L_meetingOf.1 ∈ kW0 := kW0_in (inT5 (List.mem_of_getElem? (i := 95) rfl)) rfl
theorem lk_RL_220 : Cond.methodLink RL 220 m_X6_meetingOf.1 ∈ kW0 := kW0_in (inT6 (List.mem_of_getElem? (i := 178) rfl)) rfl
theorem lk_RL_221 : Cond.methodLink RL 221 m_L_freeTimes.1 ∈ kW0 := kW0_in (inT5 (List.mem_of_getElem? (i := 103) rfl)) rfl
theorem lk_RL_223 : Cond.methodLink RL 223 m_X6_freeTimes.1 ∈ kW0 := kW0_in (inT6 (List.mem_of_getElem? (i := 182) rfl)) rfl
theorem lk_RL_224 : Cond.methodLink RL 224 m_L_freeByTrying.1 ∈ kW0 := kW0_in (inT5 (List.mem_of_getElem? (i := 110) rfl)) rfl
theorem lk_RL_226 : Cond.methodLink RL 226 m_X6_freeByTrying.1 ∈ kW0 := kW0_in (inT6 (List.mem_of_getElem? (i := 190) rfl)) rfl
theorem lk_RL_227 : Cond.methodLink RL 227 m_L_longestFree.1 ∈ kW0 := kW0_in (inT5 (List.mem_of_getElem? (i := 117) rfl)) rfl
theorem lk_RL_229 : Cond.methodLink RL 229 m_X6_longestFree.1 ∈ kW0 := kW0_in (inT6 (List.mem_of_getElem? (i := 194) rfl)) rfl
theorem lk_RL_230 : Cond.methodLink RL 230 m_L_firstCommon.1 ∈ kW0 := kW0_in (inT5 (List.mem_of_getElem? (i := 124) rfl)) rfl
theorem lk_RL_232 : Cond.methodLink RL 232 m_X6_firstCommon.1 ∈ kW0 := kW0_in (inT6 (List.mem_of_getElem? (i := 198) rfl)) rfl
theorem lk_RL_233 : Cond.methodLink RL 233 m_L_commonCount.1 ∈ kW0 := kW0_in (inT5 (List.mem_of_getElem? (i := 136) rfl)) rfl
theorem lk_RL_235 : Cond.methodLink RL 235 m_X6_commonCount.1 ∈ kW0 := kW0_in (inT6 (List.mem_of_getElem? (i := 210) rfl)) rfl
theorem lk_RL_236 : Cond.methodLink RL 236 m_L_roomFor.1 ∈ kW0 := kW0_in (inT5 (List.mem_of_getElem? (i := 143) rfl)) rfl
theorem lk_RL_238 : Cond.methodLink RL 238 m_X6_roomFor.1 ∈ kW0 := kW0_in (inT6 (List.mem_of_getElem? (i := 214) rfl)) rfl
theorem lk_RL_239 : Cond.methodLink RL 239 m_L_usedTimes.1 ∈ kW0 := kW0_in (inT5 (List.mem_of_getElem? (i := 151) rfl)) rfl
theorem lk_RL_241 : Cond.methodLink RL 241 m_X6_usedTimes.1 ∈ kW0 := kW0_in (inT6 (List.mem_of_getElem? (i := 218) rfl)) rfl
theorem lk_RL_242 : Cond.methodLink RL 242 m_L_walks.1 ∈ kW0 := kW0_in (inT5 (List.mem_of_getElem? (i := 158) rfl)) rfl
theorem lk_RL_244 : Cond.methodLink RL 244 m_X6_walks.1 ∈ kW0 := kW0_in (inT6 (List.mem_of_getElem? (i := 222) rfl)) rfl
theorem lk_RL_245 : Cond.methodLink RL 245 m_X5_sittings.1 ∈ kW0 := kW0_in (inT1 (List.mem_of_getElem? (i := 132) rfl)) rfl
theorem lk_RL_249 : Cond.methodLink RL 249 m_X6_sittings.1 ∈ kW0 := kW0_in (inT6 (List.mem_of_getElem? (i := 226) rfl)) rfl
theorem lk_RL_250 : Cond.methodLink RL 250 m_L_meanExpected.1 ∈ kW0 := kW0_in (inT5 (List.mem_of_getElem? (i := 165) rfl)) rfl
theorem lk_RL_253 : Cond.methodLink RL 253 m_X6_meanExpected.1 ∈ kW0 := kW0_in (inT6 (List.mem_of_getElem? (i := 230) rfl)) rfl
theorem lk_RL_254 : Cond.methodLink RL 254 m_L_yesShare.1 ∈ kW0 := kW0_in (inT5 (List.mem_of_getElem? (i := 189) rfl)) rfl
theorem lk_RL_256 : Cond.methodLink RL 256 m_X6_yesShare.1 ∈ kW0 := kW0_in (inT6 (List.mem_of_getElem? (i := 234) rfl)) rfl
theorem lk_RL_257 : Cond.methodLink RL 257 m_X5_isConsistent.1 ∈ kW0 := kW0_in (inT1 (List.mem_of_getElem? (i := 175) rfl)) rfl
theorem lk_RL_261 : Cond.methodLink RL 261 m_X6_isConsistent.1 ∈ kW0 := kW0_in (inT6 (List.mem_of_getElem? (i := 238) rfl)) rfl
theorem cl_RL_13 : Cond.classLink RL 13 "java/lang/IllegalArgumentException" ∈ kW0 := kW0_in (inT2 (List.mem_of_getElem? (i := 73) rfl)) rfl
theorem cl_RL_29 : Cond.classLink RL 29 "java/lang/IllegalStateException" ∈ kW0 := kW0_in (inT2 (List.mem_of_getElem? (i := 111) rfl)) rfl
theorem cl_RL_31 : Cond.classLink RL 31 "java/lang/UnsupportedOperationException" ∈ kW0 := kW0_in (inT2 (List.mem_of_getElem? (i := 112) rfl)) rfl
theorem cl_RL_36 : Cond.classLink RL 36 "java/util/NoSuchElementException" ∈ kW0 := kW0_in (inT4 (List.mem_of_getElem? (i := 120) rfl)) rfl
theorem cl_RL_49 : Cond.classLink RL 49 "java/lang/IndexOutOfBoundsException" ∈ kW0 := kW0_in (inT4 (List.mem_of_getElem? (i := 210) rfl)) rfl
theorem cl_RL_126 : Cond.classLink RL 126 "java/lang/ArithmeticException" ∈ kW0 := kW0_in (inT5 (List.mem_of_getElem? (i := 168) rfl)) rfl
theorem nse_0 : decode prog_41_method_4_code 0 = .ok (.aload_n 0, 1) := by decide +kernel
theorem nse_1 : decode prog_41_method_4_code 1 = .ok (.aload_n 1, 1) := by decide +kernel
theorem nse_2 : decode prog_41_method_4_code 2 = .ok (.invokespecial 13, 3) := by decide +kernel
theorem nse_5 : decode prog_41_method_4_code 5 = .ok (.return_, 1) := by decide +kernel
theorem at_RX5_73 : kAt RX5 73 "java/lang/IllegalStateException" ["java/lang/RuntimeException", "java/lang/Exception"] := by
  have h : (vx_atS RX5 73 "java/lang/IllegalStateException" ["java/lang/RuntimeException", "java/lang/Exception"]).all (fun w => decide (w ∈ lw_tbl) && (goodWord w || (w.faceAtom && w.onTables))) = true := by decide +kernel
  intro w hw
  have h1 := List.all_eq_true.mp h w hw
  simp only [Bool.and_eq_true, decide_eq_true_eq] at h1
  rcases Bool.or_eq_true_iff.mp h1.2 with z | z
  · exact Or.inl (kW0_in h1.1 z)
  · exact Or.inr (kFace_in h1.1 z)
theorem ini_IllegalStateException : Cond.initialized "java/lang/IllegalStateException" ∈ kW0 := kW0_in (inT1 (List.mem_of_getElem? (i := 12) rfl)) rfl
theorem at_RX5_146 : kAt RX5 146 "java/lang/IllegalArgumentException" ["java/lang/RuntimeException", "java/lang/Exception"] := by
  have h : (vx_atS RX5 146 "java/lang/IllegalArgumentException" ["java/lang/RuntimeException", "java/lang/Exception"]).all (fun w => decide (w ∈ lw_tbl) && (goodWord w || (w.faceAtom && w.onTables))) = true := by decide +kernel
  intro w hw
  have h1 := List.all_eq_true.mp h w hw
  simp only [Bool.and_eq_true, decide_eq_true_eq] at h1
  rcases Bool.or_eq_true_iff.mp h1.2 with z | z
  · exact Or.inl (kW0_in h1.1 z)
  · exact Or.inr (kFace_in h1.1 z)
theorem ini_IllegalArgumentException : Cond.initialized "java/lang/IllegalArgumentException" ∈ kW0 := kW0_in (inT1 (List.mem_of_getElem? (i := 11) rfl)) rfl
theorem ax_RX5_202 : kAtX RX5 202 "java/util/NoSuchElementException" "java/lang/RuntimeException" 13 prog_41_method_4_code ["java/lang/Exception"] := by
  have h : (kv_atS9 RX5 202 "java/util/NoSuchElementException" "java/lang/RuntimeException" 13 prog_41_method_4_code ["java/lang/Exception"]).all (fun w => decide (w ∈ lw_tbl) && (goodWord w || (w.faceAtom && w.onTables))) = true := by decide +kernel
  intro w hw
  have h1 := List.all_eq_true.mp h w hw
  simp only [Bool.and_eq_true, decide_eq_true_eq] at h1
  rcases Bool.or_eq_true_iff.mp h1.2 with z | z
  · exact Or.inl (kW0_in h1.1 z)
  · exact Or.inr (kFace_in h1.1 z)
theorem ini_NoSuchElementException : Cond.initialized "java/util/NoSuchElementException" ∈ kW0 := kW0_in (inT1 (List.mem_of_getElem? (i := 31) rfl)) rfl
theorem at_RX5_258 : kAt RX5 258 "java/lang/ArithmeticException" ["java/lang/RuntimeException", "java/lang/Exception"] := by
  have h : (vx_atS RX5 258 "java/lang/ArithmeticException" ["java/lang/RuntimeException", "java/lang/Exception"]).all (fun w => decide (w ∈ lw_tbl) && (goodWord w || (w.faceAtom && w.onTables))) = true := by decide +kernel
  intro w hw
  have h1 := List.all_eq_true.mp h w hw
  simp only [Bool.and_eq_true, decide_eq_true_eq] at h1
  rcases Bool.or_eq_true_iff.mp h1.2 with z | z
  · exact Or.inl (kW0_in h1.1 z)
  · exact Or.inr (kFace_in h1.1 z)
theorem ini_ArithmeticException : Cond.initialized "java/lang/ArithmeticException" ∈ kW0 := kW0_in (inT1 (List.mem_of_getElem? (i := 33) rfl)) rfl
theorem at_RX5_292 : kAt RX5 292 "java/lang/IndexOutOfBoundsException" ["java/lang/RuntimeException", "java/lang/Exception"] := by
  have h : (vx_atS RX5 292 "java/lang/IndexOutOfBoundsException" ["java/lang/RuntimeException", "java/lang/Exception"]).all (fun w => decide (w ∈ lw_tbl) && (goodWord w || (w.faceAtom && w.onTables))) = true := by decide +kernel
  intro w hw
  have h1 := List.all_eq_true.mp h w hw
  simp only [Bool.and_eq_true, decide_eq_true_eq] at h1
  rcases Bool.or_eq_true_iff.mp h1.2 with z | z
  · exact Or.inl (kW0_in h1.1 z)
  · exact Or.inr (kFace_in h1.1 z)
theorem ini_IndexOutOfBoundsException : Cond.initialized "java/lang/IndexOutOfBoundsException" ∈ kW0 := kW0_in (inT1 (List.mem_of_getElem? (i := 25) rfl)) rfl
theorem at_RX5_322 : kAt RX5 322 "java/lang/UnsupportedOperationException" ["java/lang/RuntimeException", "java/lang/Exception"] := by
  have h : (vx_atS RX5 322 "java/lang/UnsupportedOperationException" ["java/lang/RuntimeException", "java/lang/Exception"]).all (fun w => decide (w ∈ lw_tbl) && (goodWord w || (w.faceAtom && w.onTables))) = true := by decide +kernel
  intro w hw
  have h1 := List.all_eq_true.mp h w hw
  simp only [Bool.and_eq_true, decide_eq_true_eq] at h1
  rcases Bool.or_eq_true_iff.mp h1.2 with z | z
  · exact Or.inl (kW0_in h1.1 z)
  · exact Or.inr (kFace_in h1.1 z)
theorem ini_UnsupportedOperationException : Cond.initialized "java/lang/UnsupportedOperationException" ∈ kW0 := kW0_in (inT1 (List.mem_of_getElem? (i := 21) rfl)) rfl
theorem oi_inst : Cond.instanceMethod Lib.objectInit ∈ kW0 := kW0_in (inT1 (List.mem_of_getElem? (i := 40) rfl)) rfl
theorem oi_code : Cond.code Lib.objectInit ⟨#[0xb1]⟩ 1 none ∈ kW0 := kW0_in (inT1 (List.mem_of_getElem? (i := 41) (by decide +kernel))) rfl
theorem aw_int : Cond.arrayClass .int ∈ kW0 := kW0_in (inT5 (List.mem_of_getElem? (i := 219) rfl)) rfl
theorem aw_long : Cond.arrayClass .long ∈ kW0 := kW0_in (inT7 (List.mem_of_getElem? (i := 6) rfl)) rfl
theorem aw_double : Cond.arrayClass .double ∈ kW0 := kW0_in (inT7 (List.mem_of_getElem? (i := 7) rfl)) rfl
theorem gs_list : Cond.fieldLink RJx4a65c 39 "java/util/ArrayList" "DEFAULTCAPACITY_EMPTY_ELEMENTDATA" "[Ljava/lang/Object;" ∈ kW0 := kW0_in (inT1 (List.mem_of_getElem? (i := 81) rfl)) rfl
