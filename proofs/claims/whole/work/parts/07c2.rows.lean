theorem rX8_drop_0 : aAll 120 0 43 = true := by decide +kernel
theorem rX8_drop (pc : Nat) (w : AI) (h : amCd 120 pc = some w) : aRow 120 pc w = true := by
  have hb : pc < 43 := Nat.le_of_ble_eq_true (aGd h)
  by_cases h0 : pc < 43
  · exact aAll_of rX8_drop_0 (by omega) (by omega) h
  omega
theorem rX8_feed_0 : aAll 121 0 51 = true := by decide +kernel
theorem rX8_feed (pc : Nat) (w : AI) (h : amCd 121 pc = some w) : aRow 121 pc w = true := by
  have hb : pc < 51 := Nat.le_of_ble_eq_true (aGd h)
  by_cases h0 : pc < 51
  · exact aAll_of rX8_feed_0 (by omega) (by omega) h
  omega
theorem rX8_byteAt_0 : aAll 122 0 19 = true := by decide +kernel
theorem rX8_byteAt (pc : Nat) (w : AI) (h : amCd 122 pc = some w) : aRow 122 pc w = true := by
  have hb : pc < 19 := Nat.le_of_ble_eq_true (aGd h)
  by_cases h0 : pc < 19
  · exact aAll_of rX8_byteAt_0 (by omega) (by omega) h
  omega
theorem rX8_advances_0 : aAll 123 0 100 = true := by decide +kernel
theorem rX8_advances_100 : aAll 123 100 100 = true := by decide +kernel
theorem rX8_advances_200 : aAll 123 200 5 = true := by decide +kernel
theorem rX8_advances (pc : Nat) (w : AI) (h : amCd 123 pc = some w) : aRow 123 pc w = true := by
  have hb : pc < 205 := Nat.le_of_ble_eq_true (aGd h)
  by_cases h0 : pc < 100
  · exact aAll_of rX8_advances_0 (by omega) (by omega) h
  by_cases h100 : pc < 200
  · exact aAll_of rX8_advances_100 (by omega) (by omega) h
  by_cases h200 : pc < 205
  · exact aAll_of rX8_advances_200 (by omega) (by omega) h
  omega
theorem rX8_isWell_0 : aAll 124 0 13 = true := by decide +kernel
theorem rX8_isWell (pc : Nat) (w : AI) (h : amCd 124 pc = some w) : aRow 124 pc w = true := by
  have hb : pc < 13 := Nat.le_of_ble_eq_true (aGd h)
  by_cases h0 : pc < 13
  · exact aAll_of rX8_isWell_0 (by omega) (by omega) h
  omega
theorem rX8_takes_0 : aAll 125 0 39 = true := by decide +kernel
theorem rX8_takes (pc : Nat) (w : AI) (h : amCd 125 pc = some w) : aRow 125 pc w = true := by
  have hb : pc < 39 := Nat.le_of_ble_eq_true (aGd h)
  by_cases h0 : pc < 39
  · exact aAll_of rX8_takes_0 (by omega) (by omega) h
  omega
theorem rX8_figure_0 : aAll 126 0 37 = true := by decide +kernel
theorem rX8_figure (pc : Nat) (w : AI) (h : amCd 126 pc = some w) : aRow 126 pc w = true := by
  have hb : pc < 37 := Nat.le_of_ble_eq_true (aGd h)
  by_cases h0 : pc < 37
  · exact aAll_of rX8_figure_0 (by omega) (by omega) h
  omega
theorem rX8_kindOf_0 : aAll 127 0 52 = true := by decide +kernel
theorem rX8_kindOf (pc : Nat) (w : AI) (h : amCd 127 pc = some w) : aRow 127 pc w = true := by
  have hb : pc < 52 := Nat.le_of_ble_eq_true (aGd h)
  by_cases h0 : pc < 52
  · exact aAll_of rX8_kindOf_0 (by omega) (by omega) h
  omega
theorem rX8_follows_0 : aAll 128 0 26 = true := by decide +kernel
theorem rX8_follows (pc : Nat) (w : AI) (h : amCd 128 pc = some w) : aRow 128 pc w = true := by
  have hb : pc < 26 := Nat.le_of_ble_eq_true (aGd h)
  by_cases h0 : pc < 26
  · exact aAll_of rX8_follows_0 (by omega) (by omega) h
  omega
theorem rX8_readsWord_0 : aAll 129 0 99 = true := by decide +kernel
theorem rX8_readsWord (pc : Nat) (w : AI) (h : amCd 129 pc = some w) : aRow 129 pc w = true := by
  have hb : pc < 99 := Nat.le_of_ble_eq_true (aGd h)
  by_cases h0 : pc < 99
  · exact aAll_of rX8_readsWord_0 (by omega) (by omega) h
  omega
theorem rX8_part_0 : aAll 130 0 70 = true := by decide +kernel
theorem rX8_part (pc : Nat) (w : AI) (h : amCd 130 pc = some w) : aRow 130 pc w = true := by
  have hb : pc < 70 := Nat.le_of_ble_eq_true (aGd h)
  by_cases h0 : pc < 70
  · exact aAll_of rX8_part_0 (by omega) (by omega) h
  omega
theorem rX8_readsLetter_0 : aAll 131 0 100 = true := by decide +kernel
theorem rX8_readsLetter_100 : aAll 131 100 43 = true := by decide +kernel
theorem rX8_readsLetter (pc : Nat) (w : AI) (h : amCd 131 pc = some w) : aRow 131 pc w = true := by
  have hb : pc < 143 := Nat.le_of_ble_eq_true (aGd h)
  by_cases h0 : pc < 100
  · exact aAll_of rX8_readsLetter_0 (by omega) (by omega) h
  by_cases h100 : pc < 143
  · exact aAll_of rX8_readsLetter_100 (by omega) (by omega) h
  omega
theorem rX8_must_0 : aAll 132 0 19 = true := by decide +kernel
theorem rX8_must (pc : Nat) (w : AI) (h : amCd 132 pc = some w) : aRow 132 pc w = true := by
  have hb : pc < 19 := Nat.le_of_ble_eq_true (aGd h)
  by_cases h0 : pc < 19
  · exact aAll_of rX8_must_0 (by omega) (by omega) h
  omega
theorem rX8_post_0 : aAll 133 0 100 = true := by decide +kernel
theorem rX8_post_100 : aAll 133 100 100 = true := by decide +kernel
theorem rX8_post_200 : aAll 133 200 85 = true := by decide +kernel
theorem rX8_post (pc : Nat) (w : AI) (h : amCd 133 pc = some w) : aRow 133 pc w = true := by
  have hb : pc < 285 := Nat.le_of_ble_eq_true (aGd h)
  by_cases h0 : pc < 100
  · exact aAll_of rX8_post_0 (by omega) (by omega) h
  by_cases h100 : pc < 200
  · exact aAll_of rX8_post_100 (by omega) (by omega) h
  by_cases h200 : pc < 285
  · exact aAll_of rX8_post_200 (by omega) (by omega) h
  omega
theorem rX8_fault_0 : aAll 134 0 5 = true := by decide +kernel
theorem rX8_fault (pc : Nat) (w : AI) (h : amCd 134 pc = some w) : aRow 134 pc w = true := by
  have hb : pc < 5 := Nat.le_of_ble_eq_true (aGd h)
  by_cases h0 : pc < 5
  · exact aAll_of rX8_fault_0 (by omega) (by omega) h
  omega
theorem rX8_isPost_0 : aAll 135 0 15 = true := by decide +kernel
theorem rX8_isPost (pc : Nat) (w : AI) (h : amCd 135 pc = some w) : aRow 135 pc w = true := by
  have hb : pc < 15 := Nat.le_of_ble_eq_true (aGd h)
  by_cases h0 : pc < 15
  · exact aAll_of rX8_isPost_0 (by omega) (by omega) h
  omega
theorem rX8_isLetter_0 : aAll 136 0 14 = true := by decide +kernel
theorem rX8_isLetter (pc : Nat) (w : AI) (h : amCd 136 pc = some w) : aRow 136 pc w = true := by
  have hb : pc < 14 := Nat.le_of_ble_eq_true (aGd h)
  by_cases h0 : pc < 14
  · exact aAll_of rX8_isLetter_0 (by omega) (by omega) h
  omega
theorem rX8_isWord_0 : aAll 137 0 14 = true := by decide +kernel
theorem rX8_isWord (pc : Nat) (w : AI) (h : amCd 137 pc = some w) : aRow 137 pc w = true := by
  have hb : pc < 14 := Nat.le_of_ble_eq_true (aGd h)
  by_cases h0 : pc < 14
  · exact aAll_of rX8_isWord_0 (by omega) (by omega) h
  omega
theorem rX8_unsaid_0 : aAll 138 0 24 = true := by decide +kernel
theorem rX8_unsaid (pc : Nat) (w : AI) (h : amCd 138 pc = some w) : aRow 138 pc w = true := by
  have hb : pc < 24 := Nat.le_of_ble_eq_true (aGd h)
  by_cases h0 : pc < 24
  · exact aAll_of rX8_unsaid_0 (by omega) (by omega) h
  omega
theorem rX8_weightBy_0 : aAll 139 0 100 = true := by decide +kernel
theorem rX8_weightBy_100 : aAll 139 100 28 = true := by decide +kernel
theorem rX8_weightBy (pc : Nat) (w : AI) (h : amCd 139 pc = some w) : aRow 139 pc w = true := by
  have hb : pc < 128 := Nat.le_of_ble_eq_true (aGd h)
  by_cases h0 : pc < 100
  · exact aAll_of rX8_weightBy_0 (by omega) (by omega) h
  by_cases h100 : pc < 128
  · exact aAll_of rX8_weightBy_100 (by omega) (by omega) h
  omega
theorem rX8_weight_0 : aAll 140 0 11 = true := by decide +kernel
theorem rX8_weight (pc : Nat) (w : AI) (h : amCd 140 pc = some w) : aRow 140 pc w = true := by
  have hb : pc < 11 := Nat.le_of_ble_eq_true (aGd h)
  by_cases h0 : pc < 11
  · exact aAll_of rX8_weight_0 (by omega) (by omega) h
  omega
theorem rX8_oneOf_0 : aAll 141 0 100 = true := by decide +kernel
theorem rX8_oneOf_100 : aAll 141 100 7 = true := by decide +kernel
theorem rX8_oneOf (pc : Nat) (w : AI) (h : amCd 141 pc = some w) : aRow 141 pc w = true := by
  have hb : pc < 107 := Nat.le_of_ble_eq_true (aGd h)
  by_cases h0 : pc < 100
  · exact aAll_of rX8_oneOf_0 (by omega) (by omega) h
  by_cases h100 : pc < 107
  · exact aAll_of rX8_oneOf_100 (by omega) (by omega) h
  omega
theorem rX8_blurts_0 : aAll 142 0 93 = true := by decide +kernel
theorem rX8_blurts (pc : Nat) (w : AI) (h : amCd 142 pc = some w) : aRow 142 pc w = true := by
  have hb : pc < 93 := Nat.le_of_ble_eq_true (aGd h)
  by_cases h0 : pc < 93
  · exact aAll_of rX8_blurts_0 (by omega) (by omega) h
  omega
theorem rX8_passes_0 : aAll 143 0 100 = true := by decide +kernel
theorem rX8_passes_100 : aAll 143 100 40 = true := by decide +kernel
theorem rX8_passes (pc : Nat) (w : AI) (h : amCd 143 pc = some w) : aRow 143 pc w = true := by
  have hb : pc < 140 := Nat.le_of_ble_eq_true (aGd h)
  by_cases h0 : pc < 100
  · exact aAll_of rX8_passes_0 (by omega) (by omega) h
  by_cases h100 : pc < 140
  · exact aAll_of rX8_passes_100 (by omega) (by omega) h
  omega
theorem rX8_sentOf_0 : aAll 144 0 34 = true := by decide +kernel
theorem rX8_sentOf (pc : Nat) (w : AI) (h : amCd 144 pc = some w) : aRow 144 pc w = true := by
  have hb : pc < 34 := Nat.le_of_ble_eq_true (aGd h)
  by_cases h0 : pc < 34
  · exact aAll_of rX8_sentOf_0 (by omega) (by omega) h
  omega
theorem rX8_notes_0 : aAll 145 0 79 = true := by decide +kernel
theorem rX8_notes (pc : Nat) (w : AI) (h : amCd 145 pc = some w) : aRow 145 pc w = true := by
  have hb : pc < 79 := Nat.le_of_ble_eq_true (aGd h)
  by_cases h0 : pc < 79
  · exact aAll_of rX8_notes_0 (by omega) (by omega) h
  omega
theorem rX8_days_0 : aAll 146 0 72 = true := by decide +kernel
theorem rX8_days (pc : Nat) (w : AI) (h : amCd 146 pc = some w) : aRow 146 pc w = true := by
  have hb : pc < 72 := Nat.le_of_ble_eq_true (aGd h)
  by_cases h0 : pc < 72
  · exact aAll_of rX8_days_0 (by omega) (by omega) h
  omega
theorem rX8_say_0 : aAll 147 0 69 = true := by decide +kernel
theorem rX8_say (pc : Nat) (w : AI) (h : amCd 147 pc = some w) : aRow 147 pc w = true := by
  have hb : pc < 69 := Nat.le_of_ble_eq_true (aGd h)
  by_cases h0 : pc < 69
  · exact aAll_of rX8_say_0 (by omega) (by omega) h
  omega
theorem rX8_unsay_0 : aAll 148 0 76 = true := by decide +kernel
theorem rX8_unsay (pc : Nat) (w : AI) (h : amCd 148 pc = some w) : aRow 148 pc w = true := by
  have hb : pc < 76 := Nat.le_of_ble_eq_true (aGd h)
  by_cases h0 : pc < 76
  · exact aAll_of rX8_unsay_0 (by omega) (by omega) h
  omega
theorem rX8_back_0 : aAll 149 0 57 = true := by decide +kernel
theorem rX8_back (pc : Nat) (w : AI) (h : amCd 149 pc = some w) : aRow 149 pc w = true := by
  have hb : pc < 57 := Nat.le_of_ble_eq_true (aGd h)
  by_cases h0 : pc < 57
  · exact aAll_of rX8_back_0 (by omega) (by omega) h
  omega
theorem rX8_sets_0 : aAll 150 0 20 = true := by decide +kernel
theorem rX8_sets (pc : Nat) (w : AI) (h : amCd 150 pc = some w) : aRow 150 pc w = true := by
  have hb : pc < 20 := Nat.le_of_ble_eq_true (aGd h)
  by_cases h0 : pc < 20
  · exact aAll_of rX8_sets_0 (by omega) (by omega) h
  omega
theorem rX8_strap_0 : aAll 151 0 32 = true := by decide +kernel
theorem rX8_strap (pc : Nat) (w : AI) (h : amCd 151 pc = some w) : aRow 151 pc w = true := by
  have hb : pc < 32 := Nat.le_of_ble_eq_true (aGd h)
  by_cases h0 : pc < 32
  · exact aAll_of rX8_strap_0 (by omega) (by omega) h
  omega
theorem rX8_limit_0 : aAll 152 0 32 = true := by decide +kernel
theorem rX8_limit (pc : Nat) (w : AI) (h : amCd 152 pc = some w) : aRow 152 pc w = true := by
  have hb : pc < 32 := Nat.le_of_ble_eq_true (aGd h)
  by_cases h0 : pc < 32
  · exact aAll_of rX8_limit_0 (by omega) (by omega) h
  omega
theorem rX8_undo_0 : aAll 153 0 44 = true := by decide +kernel
theorem rX8_undo (pc : Nat) (w : AI) (h : amCd 153 pc = some w) : aRow 153 pc w = true := by
  have hb : pc < 44 := Nat.le_of_ble_eq_true (aGd h)
  by_cases h0 : pc < 44
  · exact aAll_of rX8_undo_0 (by omega) (by omega) h
  omega
theorem rX8_letter_0 : aAll 154 0 100 = true := by decide +kernel
theorem rX8_letter_100 : aAll 154 100 26 = true := by decide +kernel
theorem rX8_letter (pc : Nat) (w : AI) (h : amCd 154 pc = some w) : aRow 154 pc w = true := by
  have hb : pc < 126 := Nat.le_of_ble_eq_true (aGd h)
  by_cases h0 : pc < 100
  · exact aAll_of rX8_letter_0 (by omega) (by omega) h
  by_cases h100 : pc < 126
  · exact aAll_of rX8_letter_100 (by omega) (by omega) h
  omega
theorem rX8_ounces_0 : aAll 155 0 23 = true := by decide +kernel
theorem rX8_ounces (pc : Nat) (w : AI) (h : amCd 155 pc = some w) : aRow 155 pc w = true := by
  have hb : pc < 23 := Nat.le_of_ble_eq_true (aGd h)
  by_cases h0 : pc < 23
  · exact aAll_of rX8_ounces_0 (by omega) (by omega) h
  omega
theorem rX8_goesOn_0 : aAll 156 0 21 = true := by decide +kernel
theorem rX8_goesOn (pc : Nat) (w : AI) (h : amCd 156 pc = some w) : aRow 156 pc w = true := by
  have hb : pc < 21 := Nat.le_of_ble_eq_true (aGd h)
  by_cases h0 : pc < 21
  · exact aAll_of rX8_goesOn_0 (by omega) (by omega) h
  omega
theorem rX8_ahead_0 : aAll 157 0 77 = true := by decide +kernel
theorem rX8_ahead (pc : Nat) (w : AI) (h : amCd 157 pc = some w) : aRow 157 pc w = true := by
  have hb : pc < 77 := Nat.le_of_ble_eq_true (aGd h)
  by_cases h0 : pc < 77
  · exact aAll_of rX8_ahead_0 (by omega) (by omega) h
  omega
theorem rX8_later_0 : aAll 158 0 71 = true := by decide +kernel
theorem rX8_later (pc : Nat) (w : AI) (h : amCd 158 pc = some w) : aRow 158 pc w = true := by
  have hb : pc < 71 := Nat.le_of_ble_eq_true (aGd h)
  by_cases h0 : pc < 71
  · exact aAll_of rX8_later_0 (by omega) (by omega) h
  omega
theorem rX8_when_0 : aAll 159 0 67 = true := by decide +kernel
theorem rX8_when (pc : Nat) (w : AI) (h : amCd 159 pc = some w) : aRow 159 pc w = true := by
  have hb : pc < 67 := Nat.le_of_ble_eq_true (aGd h)
  by_cases h0 : pc < 67
  · exact aAll_of rX8_when_0 (by omega) (by omega) h
  omega
theorem rX8_lighten_0 : aAll 160 0 100 = true := by decide +kernel
theorem rX8_lighten_100 : aAll 160 100 77 = true := by decide +kernel
theorem rX8_lighten (pc : Nat) (w : AI) (h : amCd 160 pc = some w) : aRow 160 pc w = true := by
  have hb : pc < 177 := Nat.le_of_ble_eq_true (aGd h)
  by_cases h0 : pc < 100
  · exact aAll_of rX8_lighten_0 (by omega) (by omega) h
  by_cases h100 : pc < 177
  · exact aAll_of rX8_lighten_100 (by omega) (by omega) h
  omega
theorem rX8_guess_0 : aAll 161 0 100 = true := by decide +kernel
theorem rX8_guess_100 : aAll 161 100 42 = true := by decide +kernel
theorem rX8_guess (pc : Nat) (w : AI) (h : amCd 161 pc = some w) : aRow 161 pc w = true := by
  have hb : pc < 142 := Nat.le_of_ble_eq_true (aGd h)
  by_cases h0 : pc < 100
  · exact aAll_of rX8_guess_0 (by omega) (by omega) h
  by_cases h100 : pc < 142
  · exact aAll_of rX8_guess_100 (by omega) (by omega) h
  omega
theorem rX8_waiting_0 : aAll 162 0 21 = true := by decide +kernel
theorem rX8_waiting (pc : Nat) (w : AI) (h : amCd 162 pc = some w) : aRow 162 pc w = true := by
  have hb : pc < 21 := Nat.le_of_ble_eq_true (aGd h)
  by_cases h0 : pc < 21
  · exact aAll_of rX8_waiting_0 (by omega) (by omega) h
  omega
theorem rX8_load_0 : aAll 163 0 100 = true := by decide +kernel
theorem rX8_load_100 : aAll 163 100 83 = true := by decide +kernel
theorem rX8_load (pc : Nat) (w : AI) (h : amCd 163 pc = some w) : aRow 163 pc w = true := by
  have hb : pc < 183 := Nat.le_of_ble_eq_true (aGd h)
  by_cases h0 : pc < 100
  · exact aAll_of rX8_load_0 (by omega) (by omega) h
  by_cases h100 : pc < 183
  · exact aAll_of rX8_load_100 (by omega) (by omega) h
  omega
theorem rX8_claim_0 : aAll 164 0 30 = true := by decide +kernel
theorem rX8_claim (pc : Nat) (w : AI) (h : amCd 164 pc = some w) : aRow 164 pc w = true := by
  have hb : pc < 30 := Nat.le_of_ble_eq_true (aGd h)
  by_cases h0 : pc < 30
  · exact aAll_of rX8_claim_0 (by omega) (by omega) h
  omega
theorem rX8_share_0 : aAll 165 0 100 = true := by decide +kernel
theorem rX8_share_100 : aAll 165 100 52 = true := by decide +kernel
theorem rX8_share (pc : Nat) (w : AI) (h : amCd 165 pc = some w) : aRow 165 pc w = true := by
  have hb : pc < 152 := Nat.le_of_ble_eq_true (aGd h)
  by_cases h0 : pc < 100
  · exact aAll_of rX8_share_0 (by omega) (by omega) h
  by_cases h100 : pc < 152
  · exact aAll_of rX8_share_100 (by omega) (by omega) h
  omega
