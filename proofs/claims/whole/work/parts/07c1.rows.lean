theorem rX5_readNumber_0 : aAll 57 0 100 = true := by decide +kernel
theorem rX5_readNumber_100 : aAll 57 100 16 = true := by decide +kernel
theorem rX5_readNumber (pc : Nat) (w : AI) (h : amCd 57 pc = some w) : aRow 57 pc w = true := by
  have hb : pc < 116 := Nat.le_of_ble_eq_true (aGd h)
  by_cases h0 : pc < 100
  · exact aAll_of rX5_readNumber_0 (by omega) (by omega) h
  by_cases h100 : pc < 116
  · exact aAll_of rX5_readNumber_100 (by omega) (by omega) h
  omega
theorem rX5_skip_0 : aAll 58 0 31 = true := by decide +kernel
theorem rX5_skip (pc : Nat) (w : AI) (h : amCd 58 pc = some w) : aRow 58 pc w = true := by
  have hb : pc < 31 := Nat.le_of_ble_eq_true (aGd h)
  by_cases h0 : pc < 31
  · exact aAll_of rX5_skip_0 (by omega) (by omega) h
  omega
theorem rX5_isFigure_0 : aAll 59 0 36 = true := by decide +kernel
theorem rX5_isFigure (pc : Nat) (w : AI) (h : amCd 59 pc = some w) : aRow 59 pc w = true := by
  have hb : pc < 36 := Nat.le_of_ble_eq_true (aGd h)
  by_cases h0 : pc < 36
  · exact aAll_of rX5_isFigure_0 (by omega) (by omega) h
  omega
theorem rX5_next_0 : aAll 60 0 32 = true := by decide +kernel
theorem rX5_next (pc : Nat) (w : AI) (h : amCd 60 pc = some w) : aRow 60 pc w = true := by
  have hb : pc < 32 := Nat.le_of_ble_eq_true (aGd h)
  by_cases h0 : pc < 32
  · exact aAll_of rX5_next_0 (by omega) (by omega) h
  omega
theorem rX5_fail_0 : aAll 61 0 18 = true := by decide +kernel
theorem rX5_fail (pc : Nat) (w : AI) (h : amCd 61 pc = some w) : aRow 61 pc w = true := by
  have hb : pc < 18 := Nat.le_of_ble_eq_true (aGd h)
  by_cases h0 : pc < 18
  · exact aAll_of rX5_fail_0 (by omega) (by omega) h
  omega
theorem rX5_kindOf_0 : aAll 62 0 64 = true := by decide +kernel
theorem rX5_kindOf (pc : Nat) (w : AI) (h : amCd 62 pc = some w) : aRow 62 pc w = true := by
  have hb : pc < 64 := Nat.le_of_ble_eq_true (aGd h)
  by_cases h0 : pc < 64
  · exact aAll_of rX5_kindOf_0 (by omega) (by omega) h
  omega
theorem rX6_init_0 : aAll 63 0 100 = true := by decide +kernel
theorem rX6_init_100 : aAll 63 100 74 = true := by decide +kernel
theorem rX6_init (pc : Nat) (w : AI) (h : amCd 63 pc = some w) : aRow 63 pc w = true := by
  have hb : pc < 174 := Nat.le_of_ble_eq_true (aGd h)
  by_cases h0 : pc < 100
  · exact aAll_of rX6_init_0 (by omega) (by omega) h
  by_cases h100 : pc < 174
  · exact aAll_of rX6_init_100 (by omega) (by omega) h
  omega
theorem rX7_init_0 : aAll 64 0 100 = true := by decide +kernel
theorem rX7_init_100 : aAll 64 100 35 = true := by decide +kernel
theorem rX7_init (pc : Nat) (w : AI) (h : amCd 64 pc = some w) : aRow 64 pc w = true := by
  have hb : pc < 135 := Nat.le_of_ble_eq_true (aGd h)
  by_cases h0 : pc < 100
  · exact aAll_of rX7_init_0 (by omega) (by omega) h
  by_cases h100 : pc < 135
  · exact aAll_of rX7_init_100 (by omega) (by omega) h
  omega
theorem rX7_row_0 : aAll 65 0 50 = true := by decide +kernel
theorem rX7_row (pc : Nat) (w : AI) (h : amCd 65 pc = some w) : aRow 65 pc w = true := by
  have hb : pc < 50 := Nat.le_of_ble_eq_true (aGd h)
  by_cases h0 : pc < 50
  · exact aAll_of rX7_row_0 (by omega) (by omega) h
  omega
theorem rX7_set_0 : aAll 66 0 62 = true := by decide +kernel
theorem rX7_set (pc : Nat) (w : AI) (h : amCd 66 pc = some w) : aRow 66 pc w = true := by
  have hb : pc < 62 := Nat.le_of_ble_eq_true (aGd h)
  by_cases h0 : pc < 62
  · exact aAll_of rX7_set_0 (by omega) (by omega) h
  omega
theorem rX7_copy_0 : aAll 67 0 100 = true := by decide +kernel
theorem rX7_copy_100 : aAll 67 100 20 = true := by decide +kernel
theorem rX7_copy (pc : Nat) (w : AI) (h : amCd 67 pc = some w) : aRow 67 pc w = true := by
  have hb : pc < 120 := Nat.le_of_ble_eq_true (aGd h)
  by_cases h0 : pc < 100
  · exact aAll_of rX7_copy_0 (by omega) (by omega) h
  by_cases h100 : pc < 120
  · exact aAll_of rX7_copy_100 (by omega) (by omega) h
  omega
theorem rX7_drop_0 : aAll 68 0 41 = true := by decide +kernel
theorem rX7_drop (pc : Nat) (w : AI) (h : amCd 68 pc = some w) : aRow 68 pc w = true := by
  have hb : pc < 41 := Nat.le_of_ble_eq_true (aGd h)
  by_cases h0 : pc < 41
  · exact aAll_of rX7_drop_0 (by omega) (by omega) h
  omega
theorem rX7_feed_0 : aAll 69 0 38 = true := by decide +kernel
theorem rX7_feed (pc : Nat) (w : AI) (h : amCd 69 pc = some w) : aRow 69 pc w = true := by
  have hb : pc < 38 := Nat.le_of_ble_eq_true (aGd h)
  by_cases h0 : pc < 38
  · exact aAll_of rX7_feed_0 (by omega) (by omega) h
  omega
theorem rX7_post_0 : aAll 70 0 62 = true := by decide +kernel
theorem rX7_post (pc : Nat) (w : AI) (h : amCd 70 pc = some w) : aRow 70 pc w = true := by
  have hb : pc < 62 := Nat.le_of_ble_eq_true (aGd h)
  by_cases h0 : pc < 62
  · exact aAll_of rX7_post_0 (by omega) (by omega) h
  omega
theorem rX7_fault_0 : aAll 71 0 5 = true := by decide +kernel
theorem rX7_fault (pc : Nat) (w : AI) (h : amCd 71 pc = some w) : aRow 71 pc w = true := by
  have hb : pc < 5 := Nat.le_of_ble_eq_true (aGd h)
  by_cases h0 : pc < 5
  · exact aAll_of rX7_fault_0 (by omega) (by omega) h
  omega
theorem rX7_days_0 : aAll 72 0 81 = true := by decide +kernel
theorem rX7_days (pc : Nat) (w : AI) (h : amCd 72 pc = some w) : aRow 72 pc w = true := by
  have hb : pc < 81 := Nat.le_of_ble_eq_true (aGd h)
  by_cases h0 : pc < 81
  · exact aAll_of rX7_days_0 (by omega) (by omega) h
  omega
theorem rX7_say_0 : aAll 73 0 72 = true := by decide +kernel
theorem rX7_say (pc : Nat) (w : AI) (h : amCd 73 pc = some w) : aRow 73 pc w = true := by
  have hb : pc < 72 := Nat.le_of_ble_eq_true (aGd h)
  by_cases h0 : pc < 72
  · exact aAll_of rX7_say_0 (by omega) (by omega) h
  omega
theorem rX7_unsay_0 : aAll 74 0 75 = true := by decide +kernel
theorem rX7_unsay (pc : Nat) (w : AI) (h : amCd 74 pc = some w) : aRow 74 pc w = true := by
  have hb : pc < 75 := Nat.le_of_ble_eq_true (aGd h)
  by_cases h0 : pc < 75
  · exact aAll_of rX7_unsay_0 (by omega) (by omega) h
  omega
theorem rX7_back_0 : aAll 75 0 53 = true := by decide +kernel
theorem rX7_back (pc : Nat) (w : AI) (h : amCd 75 pc = some w) : aRow 75 pc w = true := by
  have hb : pc < 53 := Nat.le_of_ble_eq_true (aGd h)
  by_cases h0 : pc < 53
  · exact aAll_of rX7_back_0 (by omega) (by omega) h
  omega
theorem rX7_strap_0 : aAll 76 0 52 = true := by decide +kernel
theorem rX7_strap (pc : Nat) (w : AI) (h : amCd 76 pc = some w) : aRow 76 pc w = true := by
  have hb : pc < 52 := Nat.le_of_ble_eq_true (aGd h)
  by_cases h0 : pc < 52
  · exact aAll_of rX7_strap_0 (by omega) (by omega) h
  omega
theorem rX7_limit_0 : aAll 77 0 52 = true := by decide +kernel
theorem rX7_limit (pc : Nat) (w : AI) (h : amCd 77 pc = some w) : aRow 77 pc w = true := by
  have hb : pc < 52 := Nat.le_of_ble_eq_true (aGd h)
  by_cases h0 : pc < 52
  · exact aAll_of rX7_limit_0 (by omega) (by omega) h
  omega
theorem rX7_undo_0 : aAll 78 0 32 = true := by decide +kernel
theorem rX7_undo (pc : Nat) (w : AI) (h : amCd 78 pc = some w) : aRow 78 pc w = true := by
  have hb : pc < 32 := Nat.le_of_ble_eq_true (aGd h)
  by_cases h0 : pc < 32
  · exact aAll_of rX7_undo_0 (by omega) (by omega) h
  omega
theorem rX7_letter_0 : aAll 79 0 100 = true := by decide +kernel
theorem rX7_letter_100 : aAll 79 100 19 = true := by decide +kernel
theorem rX7_letter (pc : Nat) (w : AI) (h : amCd 79 pc = some w) : aRow 79 pc w = true := by
  have hb : pc < 119 := Nat.le_of_ble_eq_true (aGd h)
  by_cases h0 : pc < 100
  · exact aAll_of rX7_letter_0 (by omega) (by omega) h
  by_cases h100 : pc < 119
  · exact aAll_of rX7_letter_100 (by omega) (by omega) h
  omega
theorem rX7_ounces_0 : aAll 80 0 28 = true := by decide +kernel
theorem rX7_ounces (pc : Nat) (w : AI) (h : amCd 80 pc = some w) : aRow 80 pc w = true := by
  have hb : pc < 28 := Nat.le_of_ble_eq_true (aGd h)
  by_cases h0 : pc < 28
  · exact aAll_of rX7_ounces_0 (by omega) (by omega) h
  omega
theorem rX7_ahead_0 : aAll 81 0 65 = true := by decide +kernel
theorem rX7_ahead (pc : Nat) (w : AI) (h : amCd 81 pc = some w) : aRow 81 pc w = true := by
  have hb : pc < 65 := Nat.le_of_ble_eq_true (aGd h)
  by_cases h0 : pc < 65
  · exact aAll_of rX7_ahead_0 (by omega) (by omega) h
  omega
theorem rX7_later_0 : aAll 82 0 61 = true := by decide +kernel
theorem rX7_later (pc : Nat) (w : AI) (h : amCd 82 pc = some w) : aRow 82 pc w = true := by
  have hb : pc < 61 := Nat.le_of_ble_eq_true (aGd h)
  by_cases h0 : pc < 61
  · exact aAll_of rX7_later_0 (by omega) (by omega) h
  omega
theorem rX7_when_0 : aAll 83 0 26 = true := by decide +kernel
theorem rX7_when (pc : Nat) (w : AI) (h : amCd 83 pc = some w) : aRow 83 pc w = true := by
  have hb : pc < 26 := Nat.le_of_ble_eq_true (aGd h)
  by_cases h0 : pc < 26
  · exact aAll_of rX7_when_0 (by omega) (by omega) h
  omega
theorem rX7_lighten_0 : aAll 84 0 68 = true := by decide +kernel
theorem rX7_lighten (pc : Nat) (w : AI) (h : amCd 84 pc = some w) : aRow 84 pc w = true := by
  have hb : pc < 68 := Nat.le_of_ble_eq_true (aGd h)
  by_cases h0 : pc < 68
  · exact aAll_of rX7_lighten_0 (by omega) (by omega) h
  omega
theorem rX7_guess_0 : aAll 85 0 34 = true := by decide +kernel
theorem rX7_guess (pc : Nat) (w : AI) (h : amCd 85 pc = some w) : aRow 85 pc w = true := by
  have hb : pc < 34 := Nat.le_of_ble_eq_true (aGd h)
  by_cases h0 : pc < 34
  · exact aAll_of rX7_guess_0 (by omega) (by omega) h
  omega
theorem rX7_load_0 : aAll 86 0 62 = true := by decide +kernel
theorem rX7_load (pc : Nat) (w : AI) (h : amCd 86 pc = some w) : aRow 86 pc w = true := by
  have hb : pc < 62 := Nat.le_of_ble_eq_true (aGd h)
  by_cases h0 : pc < 62
  · exact aAll_of rX7_load_0 (by omega) (by omega) h
  omega
theorem rX7_share_0 : aAll 87 0 38 = true := by decide +kernel
theorem rX7_share (pc : Nat) (w : AI) (h : amCd 87 pc = some w) : aRow 87 pc w = true := by
  have hb : pc < 38 := Nat.le_of_ble_eq_true (aGd h)
  by_cases h0 : pc < 38
  · exact aAll_of rX7_share_0 (by omega) (by omega) h
  omega
theorem rX7_fits_0 : aAll 88 0 100 = true := by decide +kernel
theorem rX7_fits_100 : aAll 88 100 97 = true := by decide +kernel
theorem rX7_fits (pc : Nat) (w : AI) (h : amCd 88 pc = some w) : aRow 88 pc w = true := by
  have hb : pc < 197 := Nat.le_of_ble_eq_true (aGd h)
  by_cases h0 : pc < 100
  · exact aAll_of rX7_fits_0 (by omega) (by omega) h
  by_cases h100 : pc < 197
  · exact aAll_of rX7_fits_100 (by omega) (by omega) h
  omega
theorem rX7_slips_0 : aAll 89 0 100 = true := by decide +kernel
theorem rX7_slips_100 : aAll 89 100 22 = true := by decide +kernel
theorem rX7_slips (pc : Nat) (w : AI) (h : amCd 89 pc = some w) : aRow 89 pc w = true := by
  have hb : pc < 122 := Nat.le_of_ble_eq_true (aGd h)
  by_cases h0 : pc < 100
  · exact aAll_of rX7_slips_0 (by omega) (by omega) h
  by_cases h100 : pc < 122
  · exact aAll_of rX7_slips_100 (by omega) (by omega) h
  omega
theorem rX7_drawn_0 : aAll 90 0 87 = true := by decide +kernel
theorem rX7_drawn (pc : Nat) (w : AI) (h : amCd 90 pc = some w) : aRow 90 pc w = true := by
  have hb : pc < 87 := Nat.le_of_ble_eq_true (aGd h)
  by_cases h0 : pc < 87
  · exact aAll_of rX7_drawn_0 (by omega) (by omega) h
  omega
theorem rX7_image_0 : aAll 91 0 37 = true := by decide +kernel
theorem rX7_image (pc : Nat) (w : AI) (h : amCd 91 pc = some w) : aRow 91 pc w = true := by
  have hb : pc < 37 := Nat.le_of_ble_eq_true (aGd h)
  by_cases h0 : pc < 37
  · exact aAll_of rX7_image_0 (by omega) (by omega) h
  omega
theorem rX7_restore_0 : aAll 92 0 49 = true := by decide +kernel
theorem rX7_restore (pc : Nat) (w : AI) (h : amCd 92 pc = some w) : aRow 92 pc w = true := by
  have hb : pc < 49 := Nat.le_of_ble_eq_true (aGd h)
  by_cases h0 : pc < 49
  · exact aAll_of rX7_restore_0 (by omega) (by omega) h
  omega
theorem rX7_kind_0 : aAll 93 0 23 = true := by decide +kernel
theorem rX7_kind (pc : Nat) (w : AI) (h : amCd 93 pc = some w) : aRow 93 pc w = true := by
  have hb : pc < 23 := Nat.le_of_ble_eq_true (aGd h)
  by_cases h0 : pc < 23
  · exact aAll_of rX7_kind_0 (by omega) (by omega) h
  omega
theorem rX7_as_0 : aAll 94 0 49 = true := by decide +kernel
theorem rX7_as (pc : Nat) (w : AI) (h : amCd 94 pc = some w) : aRow 94 pc w = true := by
  have hb : pc < 49 := Nat.le_of_ble_eq_true (aGd h)
  by_cases h0 : pc < 49
  · exact aAll_of rX7_as_0 (by omega) (by omega) h
  omega
theorem rX7_ask_0 : aAll 95 0 34 = true := by decide +kernel
theorem rX7_ask (pc : Nat) (w : AI) (h : amCd 95 pc = some w) : aRow 95 pc w = true := by
  have hb : pc < 34 := Nat.le_of_ble_eq_true (aGd h)
  by_cases h0 : pc < 34
  · exact aAll_of rX7_ask_0 (by omega) (by omega) h
  omega
theorem rX7_trace_0 : aAll 96 0 32 = true := by decide +kernel
theorem rX7_trace (pc : Nat) (w : AI) (h : amCd 96 pc = some w) : aRow 96 pc w = true := by
  have hb : pc < 32 := Nat.le_of_ble_eq_true (aGd h)
  by_cases h0 : pc < 32
  · exact aAll_of rX7_trace_0 (by omega) (by omega) h
  omega
theorem rX7_count_0 : aAll 97 0 100 = true := by decide +kernel
theorem rX7_count_100 : aAll 97 100 42 = true := by decide +kernel
theorem rX7_count (pc : Nat) (w : AI) (h : amCd 97 pc = some w) : aRow 97 pc w = true := by
  have hb : pc < 142 := Nat.le_of_ble_eq_true (aGd h)
  by_cases h0 : pc < 100
  · exact aAll_of rX7_count_0 (by omega) (by omega) h
  by_cases h100 : pc < 142
  · exact aAll_of rX7_count_100 (by omega) (by omega) h
  omega
theorem rX7_status_0 : aAll 98 0 5 = true := by decide +kernel
theorem rX7_status (pc : Nat) (w : AI) (h : amCd 98 pc = some w) : aRow 98 pc w = true := by
  have hb : pc < 5 := Nat.le_of_ble_eq_true (aGd h)
  by_cases h0 : pc < 5
  · exact aAll_of rX7_status_0 (by omega) (by omega) h
  omega
theorem rX7_found_0 : aAll 99 0 11 = true := by decide +kernel
theorem rX7_found (pc : Nat) (w : AI) (h : amCd 99 pc = some w) : aRow 99 pc w = true := by
  have hb : pc < 11 := Nat.le_of_ble_eq_true (aGd h)
  by_cases h0 : pc < 11
  · exact aAll_of rX7_found_0 (by omega) (by omega) h
  omega
theorem rX7_hasNoPost_0 : aAll 100 0 16 = true := by decide +kernel
theorem rX7_hasNoPost (pc : Nat) (w : AI) (h : amCd 100 pc = some w) : aRow 100 pc w = true := by
  have hb : pc < 16 := Nat.le_of_ble_eq_true (aGd h)
  by_cases h0 : pc < 16
  · exact aAll_of rX7_hasNoPost_0 (by omega) (by omega) h
  omega
theorem rX7_hasNo_0 : aAll 101 0 15 = true := by decide +kernel
theorem rX7_hasNo (pc : Nat) (w : AI) (h : amCd 101 pc = some w) : aRow 101 pc w = true := by
  have hb : pc < 15 := Nat.le_of_ble_eq_true (aGd h)
  by_cases h0 : pc < 15
  · exact aAll_of rX7_hasNo_0 (by omega) (by omega) h
  omega
theorem rX7_hasNoWord_0 : aAll 102 0 18 = true := by decide +kernel
theorem rX7_hasNoWord (pc : Nat) (w : AI) (h : amCd 102 pc = some w) : aRow 102 pc w = true := by
  have hb : pc < 18 := Nat.le_of_ble_eq_true (aGd h)
  by_cases h0 : pc < 18
  · exact aAll_of rX7_hasNoWord_0 (by omega) (by omega) h
  omega
theorem rX7_isOutside_0 : aAll 103 0 16 = true := by decide +kernel
theorem rX7_isOutside (pc : Nat) (w : AI) (h : amCd 103 pc = some w) : aRow 103 pc w = true := by
  have hb : pc < 16 := Nat.le_of_ble_eq_true (aGd h)
  by_cases h0 : pc < 16
  · exact aAll_of rX7_isOutside_0 (by omega) (by omega) h
  omega
theorem rX7_power_0 : aAll 104 0 21 = true := by decide +kernel
theorem rX7_power (pc : Nat) (w : AI) (h : amCd 104 pc = some w) : aRow 104 pc w = true := by
  have hb : pc < 21 := Nat.le_of_ble_eq_true (aGd h)
  by_cases h0 : pc < 21
  · exact aAll_of rX7_power_0 (by omega) (by omega) h
  omega
theorem rX7_commonDivisor_0 : aAll 105 0 36 = true := by decide +kernel
theorem rX7_commonDivisor (pc : Nat) (w : AI) (h : amCd 105 pc = some w) : aRow 105 pc w = true := by
  have hb : pc < 36 := Nat.le_of_ble_eq_true (aGd h)
  by_cases h0 : pc < 36
  · exact aAll_of rX7_commonDivisor_0 (by omega) (by omega) h
  omega
theorem rX8_init_0 : aAll 106 0 100 = true := by decide +kernel
theorem rX8_init_100 : aAll 106 100 24 = true := by decide +kernel
theorem rX8_init (pc : Nat) (w : AI) (h : amCd 106 pc = some w) : aRow 106 pc w = true := by
  have hb : pc < 124 := Nat.le_of_ble_eq_true (aGd h)
  by_cases h0 : pc < 100
  · exact aAll_of rX8_init_0 (by omega) (by omega) h
  by_cases h100 : pc < 124
  · exact aAll_of rX8_init_100 (by omega) (by omega) h
  omega
theorem rX8_in_0 : aAll 107 0 16 = true := by decide +kernel
theorem rX8_in (pc : Nat) (w : AI) (h : amCd 107 pc = some w) : aRow 107 pc w = true := by
  have hb : pc < 16 := Nat.le_of_ble_eq_true (aGd h)
  by_cases h0 : pc < 16
  · exact aAll_of rX8_in_0 (by omega) (by omega) h
  omega
theorem rX8_has_0 : aAll 108 0 15 = true := by decide +kernel
theorem rX8_has (pc : Nat) (w : AI) (h : amCd 108 pc = some w) : aRow 108 pc w = true := by
  have hb : pc < 15 := Nat.le_of_ble_eq_true (aGd h)
  by_cases h0 : pc < 15
  · exact aAll_of rX8_has_0 (by omega) (by omega) h
  omega
theorem rX8_ones_0 : aAll 109 0 26 = true := by decide +kernel
theorem rX8_ones (pc : Nat) (w : AI) (h : amCd 109 pc = some w) : aRow 109 pc w = true := by
  have hb : pc < 26 := Nat.le_of_ble_eq_true (aGd h)
  by_cases h0 : pc < 26
  · exact aAll_of rX8_ones_0 (by omega) (by omega) h
  omega
theorem rX8_found_0 : aAll 110 0 10 = true := by decide +kernel
theorem rX8_found (pc : Nat) (w : AI) (h : amCd 110 pc = some w) : aRow 110 pc w = true := by
  have hb : pc < 10 := Nat.le_of_ble_eq_true (aGd h)
  by_cases h0 : pc < 10
  · exact aAll_of rX8_found_0 (by omega) (by omega) h
  omega
theorem rX8_well_0 : aAll 111 0 7 = true := by decide +kernel
theorem rX8_well (pc : Nat) (w : AI) (h : amCd 111 pc = some w) : aRow 111 pc w = true := by
  have hb : pc < 7 := Nat.le_of_ble_eq_true (aGd h)
  by_cases h0 : pc < 7
  · exact aAll_of rX8_well_0 (by omega) (by omega) h
  omega
theorem rX8_copies_0 : aAll 112 0 29 = true := by decide +kernel
theorem rX8_copies (pc : Nat) (w : AI) (h : amCd 112 pc = some w) : aRow 112 pc w = true := by
  have hb : pc < 29 := Nat.le_of_ble_eq_true (aGd h)
  by_cases h0 : pc < 29
  · exact aAll_of rX8_copies_0 (by omega) (by omega) h
  omega
theorem rX8_isRow_0 : aAll 113 0 8 = true := by decide +kernel
theorem rX8_isRow (pc : Nat) (w : AI) (h : amCd 113 pc = some w) : aRow 113 pc w = true := by
  have hb : pc < 8 := Nat.le_of_ble_eq_true (aGd h)
  by_cases h0 : pc < 8
  · exact aAll_of rX8_isRow_0 (by omega) (by omega) h
  omega
theorem rX8_isMissing_0 : aAll 114 0 17 = true := by decide +kernel
theorem rX8_isMissing (pc : Nat) (w : AI) (h : amCd 114 pc = some w) : aRow 114 pc w = true := by
  have hb : pc < 17 := Nat.le_of_ble_eq_true (aGd h)
  by_cases h0 : pc < 17
  · exact aAll_of rX8_isMissing_0 (by omega) (by omega) h
  omega
theorem rX8_cut_0 : aAll 115 0 31 = true := by decide +kernel
theorem rX8_cut (pc : Nat) (w : AI) (h : amCd 115 pc = some w) : aRow 115 pc w = true := by
  have hb : pc < 31 := Nat.le_of_ble_eq_true (aGd h)
  by_cases h0 : pc < 31
  · exact aAll_of rX8_cut_0 (by omega) (by omega) h
  omega
theorem rX8_row_0 : aAll 116 0 84 = true := by decide +kernel
theorem rX8_row (pc : Nat) (w : AI) (h : amCd 116 pc = some w) : aRow 116 pc w = true := by
  have hb : pc < 84 := Nat.le_of_ble_eq_true (aGd h)
  by_cases h0 : pc < 84
  · exact aAll_of rX8_row_0 (by omega) (by omega) h
  omega
theorem rX8_set_0 : aAll 117 0 83 = true := by decide +kernel
theorem rX8_set (pc : Nat) (w : AI) (h : amCd 117 pc = some w) : aRow 117 pc w = true := by
  have hb : pc < 83 := Nat.le_of_ble_eq_true (aGd h)
  by_cases h0 : pc < 83
  · exact aAll_of rX8_set_0 (by omega) (by omega) h
  omega
theorem rX8_isPart_0 : aAll 118 0 36 = true := by decide +kernel
theorem rX8_isPart (pc : Nat) (w : AI) (h : amCd 118 pc = some w) : aRow 118 pc w = true := by
  have hb : pc < 36 := Nat.le_of_ble_eq_true (aGd h)
  by_cases h0 : pc < 36
  · exact aAll_of rX8_isPart_0 (by omega) (by omega) h
  omega
theorem rX8_copy_0 : aAll 119 0 100 = true := by decide +kernel
theorem rX8_copy_100 : aAll 119 100 71 = true := by decide +kernel
theorem rX8_copy (pc : Nat) (w : AI) (h : amCd 119 pc = some w) : aRow 119 pc w = true := by
  have hb : pc < 171 := Nat.le_of_ble_eq_true (aGd h)
  by_cases h0 : pc < 100
  · exact aAll_of rX8_copy_0 (by omega) (by omega) h
  by_cases h100 : pc < 171
  · exact aAll_of rX8_copy_100 (by omega) (by omega) h
  omega
