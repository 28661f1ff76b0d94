theorem rX0_init_0 : aAll 0 0 14 = true := by decide +kernel
theorem rX0_init (pc : Nat) (w : AI) (h : amCd 0 pc = some w) : aRow 0 pc w = true := by
  have hb : pc < 14 := Nat.le_of_ble_eq_true (aGd h)
  by_cases h0 : pc < 14
  · exact aAll_of rX0_init_0 (by omega) (by omega) h
  omega
theorem rX0_forget_0 : aAll 1 0 6 = true := by decide +kernel
theorem rX0_forget (pc : Nat) (w : AI) (h : amCd 1 pc = some w) : aRow 1 pc w = true := by
  have hb : pc < 6 := Nat.le_of_ble_eq_true (aGd h)
  by_cases h0 : pc < 6
  · exact aAll_of rX0_forget_0 (by omega) (by omega) h
  omega
theorem rX0_keep_0 : aAll 2 0 100 = true := by decide +kernel
theorem rX0_keep_100 : aAll 2 100 25 = true := by decide +kernel
theorem rX0_keep (pc : Nat) (w : AI) (h : amCd 2 pc = some w) : aRow 2 pc w = true := by
  have hb : pc < 125 := Nat.le_of_ble_eq_true (aGd h)
  by_cases h0 : pc < 100
  · exact aAll_of rX0_keep_0 (by omega) (by omega) h
  by_cases h100 : pc < 125
  · exact aAll_of rX0_keep_100 (by omega) (by omega) h
  omega
theorem rX0_takeBack_0 : aAll 3 0 100 = true := by decide +kernel
theorem rX0_takeBack_100 : aAll 3 100 31 = true := by decide +kernel
theorem rX0_takeBack (pc : Nat) (w : AI) (h : amCd 3 pc = some w) : aRow 3 pc w = true := by
  have hb : pc < 131 := Nat.le_of_ble_eq_true (aGd h)
  by_cases h0 : pc < 100
  · exact aAll_of rX0_takeBack_0 (by omega) (by omega) h
  by_cases h100 : pc < 131
  · exact aAll_of rX0_takeBack_100 (by omega) (by omega) h
  omega
theorem rX1_init_0 : aAll 4 0 13 = true := by decide +kernel
theorem rX1_init (pc : Nat) (w : AI) (h : amCd 4 pc = some w) : aRow 4 pc w = true := by
  have hb : pc < 13 := Nat.le_of_ble_eq_true (aGd h)
  by_cases h0 : pc < 13
  · exact aAll_of rX1_init_0 (by omega) (by omega) h
  omega
theorem rX1_isA_0 : aAll 5 0 45 = true := by decide +kernel
theorem rX1_isA (pc : Nat) (w : AI) (h : amCd 5 pc = some w) : aRow 5 pc w = true := by
  have hb : pc < 45 := Nat.le_of_ble_eq_true (aGd h)
  by_cases h0 : pc < 45
  · exact aAll_of rX1_isA_0 (by omega) (by omega) h
  omega
theorem rX1_answer_0 : aAll 6 0 40 = true := by decide +kernel
theorem rX1_answer (pc : Nat) (w : AI) (h : amCd 6 pc = some w) : aRow 6 pc w = true := by
  have hb : pc < 40 := Nat.le_of_ble_eq_true (aGd h)
  by_cases h0 : pc < 40
  · exact aAll_of rX1_answer_0 (by omega) (by omega) h
  omega
theorem rX1_give_0 : aAll 7 0 100 = true := by decide +kernel
theorem rX1_give_100 : aAll 7 100 100 = true := by decide +kernel
theorem rX1_give_200 : aAll 7 200 59 = true := by decide +kernel
theorem rX1_give (pc : Nat) (w : AI) (h : amCd 7 pc = some w) : aRow 7 pc w = true := by
  have hb : pc < 259 := Nat.le_of_ble_eq_true (aGd h)
  by_cases h0 : pc < 100
  · exact aAll_of rX1_give_0 (by omega) (by omega) h
  by_cases h100 : pc < 200
  · exact aAll_of rX1_give_100 (by omega) (by omega) h
  by_cases h200 : pc < 259
  · exact aAll_of rX1_give_200 (by omega) (by omega) h
  omega
theorem rX1_leave_0 : aAll 8 0 30 = true := by decide +kernel
theorem rX1_leave (pc : Nat) (w : AI) (h : amCd 8 pc = some w) : aRow 8 pc w = true := by
  have hb : pc < 30 := Nat.le_of_ble_eq_true (aGd h)
  by_cases h0 : pc < 30
  · exact aAll_of rX1_leave_0 (by omega) (by omega) h
  omega
theorem rX2_init_0 : aAll 9 0 34 = true := by decide +kernel
theorem rX2_init (pc : Nat) (w : AI) (h : amCd 9 pc = some w) : aRow 9 pc w = true := by
  have hb : pc < 34 := Nat.le_of_ble_eq_true (aGd h)
  by_cases h0 : pc < 34
  · exact aAll_of rX2_init_0 (by omega) (by omega) h
  omega
theorem rX2_begin_0 : aAll 10 0 31 = true := by decide +kernel
theorem rX2_begin (pc : Nat) (w : AI) (h : amCd 10 pc = some w) : aRow 10 pc w = true := by
  have hb : pc < 31 := Nat.le_of_ble_eq_true (aGd h)
  by_cases h0 : pc < 31
  · exact aAll_of rX2_begin_0 (by omega) (by omega) h
  omega
theorem rX2_add_0 : aAll 11 0 50 = true := by decide +kernel
theorem rX2_add (pc : Nat) (w : AI) (h : amCd 11 pc = some w) : aRow 11 pc w = true := by
  have hb : pc < 50 := Nat.le_of_ble_eq_true (aGd h)
  by_cases h0 : pc < 50
  · exact aAll_of rX2_add_0 (by omega) (by omega) h
  omega
theorem rX2_become_0 : aAll 12 0 100 = true := by decide +kernel
theorem rX2_become_100 : aAll 12 100 2 = true := by decide +kernel
theorem rX2_become (pc : Nat) (w : AI) (h : amCd 12 pc = some w) : aRow 12 pc w = true := by
  have hb : pc < 102 := Nat.le_of_ble_eq_true (aGd h)
  by_cases h0 : pc < 100
  · exact aAll_of rX2_become_0 (by omega) (by omega) h
  by_cases h100 : pc < 102
  · exact aAll_of rX2_become_100 (by omega) (by omega) h
  omega
theorem rX2_waits_0 : aAll 13 0 17 = true := by decide +kernel
theorem rX2_waits (pc : Nat) (w : AI) (h : amCd 13 pc = some w) : aRow 13 pc w = true := by
  have hb : pc < 17 := Nat.le_of_ble_eq_true (aGd h)
  by_cases h0 : pc < 17
  · exact aAll_of rX2_waits_0 (by omega) (by omega) h
  omega
theorem rX2_takeReturned_0 : aAll 14 0 15 = true := by decide +kernel
theorem rX2_takeReturned (pc : Nat) (w : AI) (h : amCd 14 pc = some w) : aRow 14 pc w = true := by
  have hb : pc < 15 := Nat.le_of_ble_eq_true (aGd h)
  by_cases h0 : pc < 15
  · exact aAll_of rX2_takeReturned_0 (by omega) (by omega) h
  omega
theorem rX2_unsaid_0 : aAll 15 0 16 = true := by decide +kernel
theorem rX2_unsaid (pc : Nat) (w : AI) (h : amCd 15 pc = some w) : aRow 15 pc w = true := by
  have hb : pc < 16 := Nat.le_of_ble_eq_true (aGd h)
  by_cases h0 : pc < 16
  · exact aAll_of rX2_unsaid_0 (by omega) (by omega) h
  omega
theorem rX2_weight_0 : aAll 16 0 37 = true := by decide +kernel
theorem rX2_weight (pc : Nat) (w : AI) (h : amCd 16 pc = some w) : aRow 16 pc w = true := by
  have hb : pc < 37 := Nat.le_of_ble_eq_true (aGd h)
  by_cases h0 : pc < 37
  · exact aAll_of rX2_weight_0 (by omega) (by omega) h
  omega
theorem rX2_weigh_0 : aAll 17 0 64 = true := by decide +kernel
theorem rX2_weigh (pc : Nat) (w : AI) (h : amCd 17 pc = some w) : aRow 17 pc w = true := by
  have hb : pc < 64 := Nat.le_of_ble_eq_true (aGd h)
  by_cases h0 : pc < 64
  · exact aAll_of rX2_weigh_0 (by omega) (by omega) h
  omega
theorem rX2_weightTogether_0 : aAll 18 0 36 = true := by decide +kernel
theorem rX2_weightTogether (pc : Nat) (w : AI) (h : amCd 18 pc = some w) : aRow 18 pc w = true := by
  have hb : pc < 36 := Nat.le_of_ble_eq_true (aGd h)
  by_cases h0 : pc < 36
  · exact aAll_of rX2_weightTogether_0 (by omega) (by omega) h
  omega
theorem rX2_blurt_0 : aAll 19 0 100 = true := by decide +kernel
theorem rX2_blurt_100 : aAll 19 100 7 = true := by decide +kernel
theorem rX2_blurt (pc : Nat) (w : AI) (h : amCd 19 pc = some w) : aRow 19 pc w = true := by
  have hb : pc < 107 := Nat.le_of_ble_eq_true (aGd h)
  by_cases h0 : pc < 100
  · exact aAll_of rX2_blurt_0 (by omega) (by omega) h
  by_cases h100 : pc < 107
  · exact aAll_of rX2_blurt_100 (by omega) (by omega) h
  omega
theorem rX2_passDay_0 : aAll 20 0 100 = true := by decide +kernel
theorem rX2_passDay_100 : aAll 20 100 39 = true := by decide +kernel
theorem rX2_passDay (pc : Nat) (w : AI) (h : amCd 20 pc = some w) : aRow 20 pc w = true := by
  have hb : pc < 139 := Nat.le_of_ble_eq_true (aGd h)
  by_cases h0 : pc < 100
  · exact aAll_of rX2_passDay_0 (by omega) (by omega) h
  by_cases h100 : pc < 139
  · exact aAll_of rX2_passDay_100 (by omega) (by omega) h
  omega
theorem rX2_passDays_0 : aAll 21 0 59 = true := by decide +kernel
theorem rX2_passDays (pc : Nat) (w : AI) (h : amCd 21 pc = some w) : aRow 21 pc w = true := by
  have hb : pc < 59 := Nat.le_of_ble_eq_true (aGd h)
  by_cases h0 : pc < 59
  · exact aAll_of rX2_passDays_0 (by omega) (by omega) h
  omega
theorem rX3_init_0 : aAll 22 0 51 = true := by decide +kernel
theorem rX3_init (pc : Nat) (w : AI) (h : amCd 22 pc = some w) : aRow 22 pc w = true := by
  have hb : pc < 51 := Nat.le_of_ble_eq_true (aGd h)
  by_cases h0 : pc < 51
  · exact aAll_of rX3_init_0 (by omega) (by omega) h
  omega
theorem rX3_isNamed_0 : aAll 23 0 16 = true := by decide +kernel
theorem rX3_isNamed (pc : Nat) (w : AI) (h : amCd 23 pc = some w) : aRow 23 pc w = true := by
  have hb : pc < 16 := Nat.le_of_ble_eq_true (aGd h)
  by_cases h0 : pc < 16
  · exact aAll_of rX3_isNamed_0 (by omega) (by omega) h
  omega
theorem rX3_isLane_0 : aAll 24 0 15 = true := by decide +kernel
theorem rX3_isLane (pc : Nat) (w : AI) (h : amCd 24 pc = some w) : aRow 24 pc w = true := by
  have hb : pc < 15 := Nat.le_of_ble_eq_true (aGd h)
  by_cases h0 : pc < 15
  · exact aAll_of rX3_isLane_0 (by omega) (by omega) h
  omega
theorem rX3_isMissing_0 : aAll 25 0 16 = true := by decide +kernel
theorem rX3_isMissing (pc : Nat) (w : AI) (h : amCd 25 pc = some w) : aRow 25 pc w = true := by
  have hb : pc < 16 := Nat.le_of_ble_eq_true (aGd h)
  by_cases h0 : pc < 16
  · exact aAll_of rX3_isMissing_0 (by omega) (by omega) h
  omega
theorem rX3_shareLane_0 : aAll 26 0 21 = true := by decide +kernel
theorem rX3_shareLane (pc : Nat) (w : AI) (h : amCd 26 pc = some w) : aRow 26 pc w = true := by
  have hb : pc < 21 := Nat.le_of_ble_eq_true (aGd h)
  by_cases h0 : pc < 21
  · exact aAll_of rX3_shareLane_0 (by omega) (by omega) h
  omega
theorem rX3_covers_0 : aAll 27 0 26 = true := by decide +kernel
theorem rX3_covers (pc : Nat) (w : AI) (h : amCd 27 pc = some w) : aRow 27 pc w = true := by
  have hb : pc < 26 := Nat.le_of_ble_eq_true (aGd h)
  by_cases h0 : pc < 26
  · exact aAll_of rX3_covers_0 (by omega) (by omega) h
  omega
theorem rX3_make_0 : aAll 28 0 43 = true := by decide +kernel
theorem rX3_make (pc : Nat) (w : AI) (h : amCd 28 pc = some w) : aRow 28 pc w = true := by
  have hb : pc < 43 := Nat.le_of_ble_eq_true (aGd h)
  by_cases h0 : pc < 43
  · exact aAll_of rX3_make_0 (by omega) (by omega) h
  omega
theorem rX3_put_0 : aAll 29 0 48 = true := by decide +kernel
theorem rX3_put (pc : Nat) (w : AI) (h : amCd 29 pc = some w) : aRow 29 pc w = true := by
  have hb : pc < 48 := Nat.le_of_ble_eq_true (aGd h)
  by_cases h0 : pc < 48
  · exact aAll_of rX3_put_0 (by omega) (by omega) h
  omega
theorem rX3_item_0 : aAll 30 0 12 = true := by decide +kernel
theorem rX3_item (pc : Nat) (w : AI) (h : amCd 30 pc = some w) : aRow 30 pc w = true := by
  have hb : pc < 12 := Nat.le_of_ble_eq_true (aGd h)
  by_cases h0 : pc < 12
  · exact aAll_of rX3_item_0 (by omega) (by omega) h
  omega
theorem rX3_move_0 : aAll 31 0 27 = true := by decide +kernel
theorem rX3_move (pc : Nat) (w : AI) (h : amCd 31 pc = some w) : aRow 31 pc w = true := by
  have hb : pc < 27 := Nat.le_of_ble_eq_true (aGd h)
  by_cases h0 : pc < 27
  · exact aAll_of rX3_move_0 (by omega) (by omega) h
  omega
theorem rX3_remove_0 : aAll 32 0 14 = true := by decide +kernel
theorem rX3_remove (pc : Nat) (w : AI) (h : amCd 32 pc = some w) : aRow 32 pc w = true := by
  have hb : pc < 14 := Nat.le_of_ble_eq_true (aGd h)
  by_cases h0 : pc < 14
  · exact aAll_of rX3_remove_0 (by omega) (by omega) h
  omega
theorem rX3_present_0 : aAll 33 0 29 = true := by decide +kernel
theorem rX3_present (pc : Nat) (w : AI) (h : amCd 33 pc = some w) : aRow 33 pc w = true := by
  have hb : pc < 29 := Nat.le_of_ble_eq_true (aGd h)
  by_cases h0 : pc < 29
  · exact aAll_of rX3_present_0 (by omega) (by omega) h
  omega
theorem rX4_init_0 : aAll 34 0 18 = true := by decide +kernel
theorem rX4_init (pc : Nat) (w : AI) (h : amCd 34 pc = some w) : aRow 34 pc w = true := by
  have hb : pc < 18 := Nat.le_of_ble_eq_true (aGd h)
  by_cases h0 : pc < 18
  · exact aAll_of rX4_init_0 (by omega) (by omega) h
  omega
theorem rX4_foretell_0 : aAll 35 0 21 = true := by decide +kernel
theorem rX4_foretell (pc : Nat) (w : AI) (h : amCd 35 pc = some w) : aRow 35 pc w = true := by
  have hb : pc < 21 := Nat.le_of_ble_eq_true (aGd h)
  by_cases h0 : pc < 21
  · exact aAll_of rX4_foretell_0 (by omega) (by omega) h
  omega
theorem rX4_daysUntilSent_0 : aAll 36 0 46 = true := by decide +kernel
theorem rX4_daysUntilSent (pc : Nat) (w : AI) (h : amCd 36 pc = some w) : aRow 36 pc w = true := by
  have hb : pc < 46 := Nat.le_of_ble_eq_true (aGd h)
  by_cases h0 : pc < 46
  · exact aAll_of rX4_daysUntilSent_0 (by omega) (by omega) h
  omega
theorem rX4_fewestToSay_0 : aAll 37 0 87 = true := by decide +kernel
theorem rX4_fewestToSay (pc : Nat) (w : AI) (h : amCd 37 pc = some w) : aRow 37 pc w = true := by
  have hb : pc < 87 := Nat.le_of_ble_eq_true (aGd h)
  by_cases h0 : pc < 87
  · exact aAll_of rX4_fewestToSay_0 (by omega) (by omega) h
  omega
theorem rX4_weightHavingSaid_0 : aAll 38 0 45 = true := by decide +kernel
theorem rX4_weightHavingSaid (pc : Nat) (w : AI) (h : amCd 38 pc = some w) : aRow 38 pc w = true := by
  have hb : pc < 45 := Nat.le_of_ble_eq_true (aGd h)
  by_cases h0 : pc < 45
  · exact aAll_of rX4_weightHavingSaid_0 (by omega) (by omega) h
  omega
theorem rX4_weighingAlike_0 : aAll 39 0 100 = true := by decide +kernel
theorem rX4_weighingAlike_100 : aAll 39 100 22 = true := by decide +kernel
theorem rX4_weighingAlike (pc : Nat) (w : AI) (h : amCd 39 pc = some w) : aRow 39 pc w = true := by
  have hb : pc < 122 := Nat.le_of_ble_eq_true (aGd h)
  by_cases h0 : pc < 100
  · exact aAll_of rX4_weighingAlike_0 (by omega) (by omega) h
  by_cases h100 : pc < 122
  · exact aAll_of rX4_weighingAlike_100 (by omega) (by omega) h
  omega
theorem rX4_bestLoad_0 : aAll 40 0 100 = true := by decide +kernel
theorem rX4_bestLoad_100 : aAll 40 100 10 = true := by decide +kernel
theorem rX4_bestLoad (pc : Nat) (w : AI) (h : amCd 40 pc = some w) : aRow 40 pc w = true := by
  have hb : pc < 110 := Nat.le_of_ble_eq_true (aGd h)
  by_cases h0 : pc < 100
  · exact aAll_of rX4_bestLoad_0 (by omega) (by omega) h
  by_cases h100 : pc < 110
  · exact aAll_of rX4_bestLoad_100 (by omega) (by omega) h
  omega
theorem rX4_shareOf_0 : aAll 41 0 100 = true := by decide +kernel
theorem rX4_shareOf_100 : aAll 41 100 31 = true := by decide +kernel
theorem rX4_shareOf (pc : Nat) (w : AI) (h : amCd 41 pc = some w) : aRow 41 pc w = true := by
  have hb : pc < 131 := Nat.le_of_ble_eq_true (aGd h)
  by_cases h0 : pc < 100
  · exact aAll_of rX4_shareOf_0 (by omega) (by omega) h
  by_cases h100 : pc < 131
  · exact aAll_of rX4_shareOf_100 (by omega) (by omega) h
  omega
theorem rX4_hear_0 : aAll 42 0 46 = true := by decide +kernel
theorem rX4_hear (pc : Nat) (w : AI) (h : amCd 42 pc = some w) : aRow 42 pc w = true := by
  have hb : pc < 46 := Nat.le_of_ble_eq_true (aGd h)
  by_cases h0 : pc < 46
  · exact aAll_of rX4_hear_0 (by omega) (by omega) h
  omega
theorem rX4_isAsTold_0 : aAll 43 0 45 = true := by decide +kernel
theorem rX4_isAsTold (pc : Nat) (w : AI) (h : amCd 43 pc = some w) : aRow 43 pc w = true := by
  have hb : pc < 45 := Nat.le_of_ble_eq_true (aGd h)
  by_cases h0 : pc < 45
  · exact aAll_of rX4_isAsTold_0 (by omega) (by omega) h
  omega
theorem rX4_fittingKinds_0 : aAll 44 0 53 = true := by decide +kernel
theorem rX4_fittingKinds (pc : Nat) (w : AI) (h : amCd 44 pc = some w) : aRow 44 pc w = true := by
  have hb : pc < 53 := Nat.le_of_ble_eq_true (aGd h)
  by_cases h0 : pc < 53
  · exact aAll_of rX4_fittingKinds_0 (by omega) (by omega) h
  omega
theorem rX4_fittingSaids_0 : aAll 45 0 96 = true := by decide +kernel
theorem rX4_fittingSaids (pc : Nat) (w : AI) (h : amCd 45 pc = some w) : aRow 45 pc w = true := by
  have hb : pc < 96 := Nat.le_of_ble_eq_true (aGd h)
  by_cases h0 : pc < 96
  · exact aAll_of rX4_fittingSaids_0 (by omega) (by omega) h
  omega
theorem rX4_fittingLimits_0 : aAll 46 0 77 = true := by decide +kernel
theorem rX4_fittingLimits (pc : Nat) (w : AI) (h : amCd 46 pc = some w) : aRow 46 pc w = true := by
  have hb : pc < 77 := Nat.le_of_ble_eq_true (aGd h)
  by_cases h0 : pc < 77
  · exact aAll_of rX4_fittingLimits_0 (by omega) (by omega) h
  omega
theorem rX4_lightCases_0 : aAll 47 0 100 = true := by decide +kernel
theorem rX4_lightCases_100 : aAll 47 100 23 = true := by decide +kernel
theorem rX4_lightCases (pc : Nat) (w : AI) (h : amCd 47 pc = some w) : aRow 47 pc w = true := by
  have hb : pc < 123 := Nat.le_of_ble_eq_true (aGd h)
  by_cases h0 : pc < 100
  · exact aAll_of rX4_lightCases_0 (by omega) (by omega) h
  by_cases h100 : pc < 123
  · exact aAll_of rX4_lightCases_100 (by omega) (by omega) h
  omega
theorem rX4_draw_0 : aAll 48 0 100 = true := by decide +kernel
theorem rX4_draw_100 : aAll 48 100 45 = true := by decide +kernel
theorem rX4_draw (pc : Nat) (w : AI) (h : amCd 48 pc = some w) : aRow 48 pc w = true := by
  have hb : pc < 145 := Nat.le_of_ble_eq_true (aGd h)
  by_cases h0 : pc < 100
  · exact aAll_of rX4_draw_0 (by omega) (by omega) h
  by_cases h100 : pc < 145
  · exact aAll_of rX4_draw_100 (by omega) (by omega) h
  omega
theorem rX5_init_0 : aAll 49 0 21 = true := by decide +kernel
theorem rX5_init (pc : Nat) (w : AI) (h : amCd 49 pc = some w) : aRow 49 pc w = true := by
  have hb : pc < 21 := Nat.le_of_ble_eq_true (aGd h)
  by_cases h0 : pc < 21
  · exact aAll_of rX5_init_0 (by omega) (by omega) h
  omega
theorem rX5_isFull_0 : aAll 50 0 15 = true := by decide +kernel
theorem rX5_isFull (pc : Nat) (w : AI) (h : amCd 50 pc = some w) : aRow 50 pc w = true := by
  have hb : pc < 15 := Nat.le_of_ble_eq_true (aGd h)
  by_cases h0 : pc < 15
  · exact aAll_of rX5_isFull_0 (by omega) (by omega) h
  omega
theorem rX5_append_0 : aAll 51 0 32 = true := by decide +kernel
theorem rX5_append (pc : Nat) (w : AI) (h : amCd 51 pc = some w) : aRow 51 pc w = true := by
  have hb : pc < 32 := Nat.le_of_ble_eq_true (aGd h)
  by_cases h0 : pc < 32
  · exact aAll_of rX5_append_0 (by omega) (by omega) h
  omega
theorem rX5_readInto_0 : aAll 52 0 81 = true := by decide +kernel
theorem rX5_readInto (pc : Nat) (w : AI) (h : amCd 52 pc = some w) : aRow 52 pc w = true := by
  have hb : pc < 81 := Nat.le_of_ble_eq_true (aGd h)
  by_cases h0 : pc < 81
  · exact aAll_of rX5_readInto_0 (by omega) (by omega) h
  omega
theorem rX5_readLaw_0 : aAll 53 0 41 = true := by decide +kernel
theorem rX5_readLaw (pc : Nat) (w : AI) (h : amCd 53 pc = some w) : aRow 53 pc w = true := by
  have hb : pc < 41 := Nat.le_of_ble_eq_true (aGd h)
  by_cases h0 : pc < 41
  · exact aAll_of rX5_readLaw_0 (by omega) (by omega) h
  omega
theorem rX5_readWords_0 : aAll 54 0 100 = true := by decide +kernel
theorem rX5_readWords_100 : aAll 54 100 8 = true := by decide +kernel
theorem rX5_readWords (pc : Nat) (w : AI) (h : amCd 54 pc = some w) : aRow 54 pc w = true := by
  have hb : pc < 108 := Nat.le_of_ble_eq_true (aGd h)
  by_cases h0 : pc < 100
  · exact aAll_of rX5_readWords_0 (by omega) (by omega) h
  by_cases h100 : pc < 108
  · exact aAll_of rX5_readWords_100 (by omega) (by omega) h
  omega
theorem rX5_readLetters_0 : aAll 55 0 100 = true := by decide +kernel
theorem rX5_readLetters_100 : aAll 55 100 28 = true := by decide +kernel
theorem rX5_readLetters (pc : Nat) (w : AI) (h : amCd 55 pc = some w) : aRow 55 pc w = true := by
  have hb : pc < 128 := Nat.le_of_ble_eq_true (aGd h)
  by_cases h0 : pc < 100
  · exact aAll_of rX5_readLetters_0 (by omega) (by omega) h
  by_cases h100 : pc < 128
  · exact aAll_of rX5_readLetters_100 (by omega) (by omega) h
  omega
theorem rX5_readSet_0 : aAll 56 0 29 = true := by decide +kernel
theorem rX5_readSet (pc : Nat) (w : AI) (h : amCd 56 pc = some w) : aRow 56 pc w = true := by
  have hb : pc < 29 := Nat.le_of_ble_eq_true (aGd h)
  by_cases h0 : pc < 29
  · exact aAll_of rX5_readSet_0 (by omega) (by omega) h
  omega
