theorem rX8_weighsSo_0 : aAll 166 0 82 = true := by decide +kernel
theorem rX8_weighsSo (pc : Nat) (w : AI) (h : amCd 166 pc = some w) : aRow 166 pc w = true := by
  have hb : pc < 82 := Nat.le_of_ble_eq_true (aGd h)
  by_cases h0 : pc < 82
  · exact aAll_of rX8_weighsSo_0 (by omega) (by omega) h
  omega
theorem rX8_fits_0 : aAll 167 0 100 = true := by decide +kernel
theorem rX8_fits_100 : aAll 167 100 100 = true := by decide +kernel
theorem rX8_fits_200 : aAll 167 200 89 = true := by decide +kernel
theorem rX8_fits (pc : Nat) (w : AI) (h : amCd 167 pc = some w) : aRow 167 pc w = true := by
  have hb : pc < 289 := Nat.le_of_ble_eq_true (aGd h)
  by_cases h0 : pc < 100
  · exact aAll_of rX8_fits_0 (by omega) (by omega) h
  by_cases h100 : pc < 200
  · exact aAll_of rX8_fits_100 (by omega) (by omega) h
  by_cases h200 : pc < 289
  · exact aAll_of rX8_fits_200 (by omega) (by omega) h
  omega
theorem rX8_slips_0 : aAll 168 0 100 = true := by decide +kernel
theorem rX8_slips_100 : aAll 168 100 100 = true := by decide +kernel
theorem rX8_slips_200 : aAll 168 200 88 = true := by decide +kernel
theorem rX8_slips (pc : Nat) (w : AI) (h : amCd 168 pc = some w) : aRow 168 pc w = true := by
  have hb : pc < 288 := Nat.le_of_ble_eq_true (aGd h)
  by_cases h0 : pc < 100
  · exact aAll_of rX8_slips_0 (by omega) (by omega) h
  by_cases h100 : pc < 200
  · exact aAll_of rX8_slips_100 (by omega) (by omega) h
  by_cases h200 : pc < 288
  · exact aAll_of rX8_slips_200 (by omega) (by omega) h
  omega
theorem rX8_drawn_0 : aAll 169 0 100 = true := by decide +kernel
theorem rX8_drawn_100 : aAll 169 100 100 = true := by decide +kernel
theorem rX8_drawn_200 : aAll 169 200 9 = true := by decide +kernel
theorem rX8_drawn (pc : Nat) (w : AI) (h : amCd 169 pc = some w) : aRow 169 pc w = true := by
  have hb : pc < 209 := Nat.le_of_ble_eq_true (aGd h)
  by_cases h0 : pc < 100
  · exact aAll_of rX8_drawn_0 (by omega) (by omega) h
  by_cases h100 : pc < 200
  · exact aAll_of rX8_drawn_100 (by omega) (by omega) h
  by_cases h200 : pc < 209
  · exact aAll_of rX8_drawn_200 (by omega) (by omega) h
  omega
theorem rX8_image_0 : aAll 170 0 47 = true := by decide +kernel
theorem rX8_image (pc : Nat) (w : AI) (h : amCd 170 pc = some w) : aRow 170 pc w = true := by
  have hb : pc < 47 := Nat.le_of_ble_eq_true (aGd h)
  by_cases h0 : pc < 47
  · exact aAll_of rX8_image_0 (by omega) (by omega) h
  omega
theorem rX8_restore_0 : aAll 171 0 47 = true := by decide +kernel
theorem rX8_restore (pc : Nat) (w : AI) (h : amCd 171 pc = some w) : aRow 171 pc w = true := by
  have hb : pc < 47 := Nat.le_of_ble_eq_true (aGd h)
  by_cases h0 : pc < 47
  · exact aAll_of rX8_restore_0 (by omega) (by omega) h
  omega
theorem rX8_kindIn_0 : aAll 172 0 12 = true := by decide +kernel
theorem rX8_kindIn (pc : Nat) (w : AI) (h : amCd 172 pc = some w) : aRow 172 pc w = true := by
  have hb : pc < 12 := Nat.le_of_ble_eq_true (aGd h)
  by_cases h0 : pc < 12
  · exact aAll_of rX8_kindIn_0 (by omega) (by omega) h
  omega
theorem rX8_kind_0 : aAll 173 0 19 = true := by decide +kernel
theorem rX8_kind (pc : Nat) (w : AI) (h : amCd 173 pc = some w) : aRow 173 pc w = true := by
  have hb : pc < 19 := Nat.le_of_ble_eq_true (aGd h)
  by_cases h0 : pc < 19
  · exact aAll_of rX8_kind_0 (by omega) (by omega) h
  omega
theorem rX8_as_0 : aAll 174 0 81 = true := by decide +kernel
theorem rX8_as (pc : Nat) (w : AI) (h : amCd 174 pc = some w) : aRow 174 pc w = true := by
  have hb : pc < 81 := Nat.le_of_ble_eq_true (aGd h)
  by_cases h0 : pc < 81
  · exact aAll_of rX8_as_0 (by omega) (by omega) h
  omega
theorem rX8_begins_0 : aAll 175 0 30 = true := by decide +kernel
theorem rX8_begins (pc : Nat) (w : AI) (h : amCd 175 pc = some w) : aRow 175 pc w = true := by
  have hb : pc < 30 := Nat.le_of_ble_eq_true (aGd h)
  by_cases h0 : pc < 30
  · exact aAll_of rX8_begins_0 (by omega) (by omega) h
  omega
theorem rX8_plainMark_0 : aAll 176 0 84 = true := by decide +kernel
theorem rX8_plainMark (pc : Nat) (w : AI) (h : amCd 176 pc = some w) : aRow 176 pc w = true := by
  have hb : pc < 84 := Nat.le_of_ble_eq_true (aGd h)
  by_cases h0 : pc < 84
  · exact aAll_of rX8_plainMark_0 (by omega) (by omega) h
  omega
theorem rX8_cardSize_0 : aAll 177 0 69 = true := by decide +kernel
theorem rX8_cardSize (pc : Nat) (w : AI) (h : amCd 177 pc = some w) : aRow 177 pc w = true := by
  have hb : pc < 69 := Nat.le_of_ble_eq_true (aGd h)
  by_cases h0 : pc < 69
  · exact aAll_of rX8_cardSize_0 (by omega) (by omega) h
  omega
theorem rX8_plainSize_0 : aAll 178 0 71 = true := by decide +kernel
theorem rX8_plainSize (pc : Nat) (w : AI) (h : amCd 178 pc = some w) : aRow 178 pc w = true := by
  have hb : pc < 71 := Nat.le_of_ble_eq_true (aGd h)
  by_cases h0 : pc < 71
  · exact aAll_of rX8_plainSize_0 (by omega) (by omega) h
  omega
theorem rX8_cardMark_0 : aAll 179 0 20 = true := by decide +kernel
theorem rX8_cardMark (pc : Nat) (w : AI) (h : amCd 179 pc = some w) : aRow 179 pc w = true := by
  have hb : pc < 20 := Nat.le_of_ble_eq_true (aGd h)
  by_cases h0 : pc < 20
  · exact aAll_of rX8_cardMark_0 (by omega) (by omega) h
  omega
theorem rX8_ask_0 : aAll 180 0 80 = true := by decide +kernel
theorem rX8_ask (pc : Nat) (w : AI) (h : amCd 180 pc = some w) : aRow 180 pc w = true := by
  have hb : pc < 80 := Nat.le_of_ble_eq_true (aGd h)
  by_cases h0 : pc < 80
  · exact aAll_of rX8_ask_0 (by omega) (by omega) h
  omega
theorem rX8_trace_0 : aAll 181 0 26 = true := by decide +kernel
theorem rX8_trace (pc : Nat) (w : AI) (h : amCd 181 pc = some w) : aRow 181 pc w = true := by
  have hb : pc < 26 := Nat.le_of_ble_eq_true (aGd h)
  by_cases h0 : pc < 26
  · exact aAll_of rX8_trace_0 (by omega) (by omega) h
  omega
theorem rX8_count_0 : aAll 182 0 100 = true := by decide +kernel
theorem rX8_count_100 : aAll 182 100 51 = true := by decide +kernel
theorem rX8_count (pc : Nat) (w : AI) (h : amCd 182 pc = some w) : aRow 182 pc w = true := by
  have hb : pc < 151 := Nat.le_of_ble_eq_true (aGd h)
  by_cases h0 : pc < 100
  · exact aAll_of rX8_count_0 (by omega) (by omega) h
  by_cases h100 : pc < 151
  · exact aAll_of rX8_count_100 (by omega) (by omega) h
  omega
theorem rX8_status_0 : aAll 183 0 5 = true := by decide +kernel
theorem rX8_status (pc : Nat) (w : AI) (h : amCd 183 pc = some w) : aRow 183 pc w = true := by
  have hb : pc < 5 := Nat.le_of_ble_eq_true (aGd h)
  by_cases h0 : pc < 5
  · exact aAll_of rX8_status_0 (by omega) (by omega) h
  omega
theorem rJ6_numberOfTrailingZeros_0 : aAll 184 0 80 = true := by decide +kernel
theorem rJ6_numberOfTrailingZeros (pc : Nat) (w : AI) (h : amCd 184 pc = some w) : aRow 184 pc w = true := by
  have hb : pc < 80 := Nat.le_of_ble_eq_true (aGd h)
  by_cases h0 : pc < 80
  · exact aAll_of rJ6_numberOfTrailingZeros_0 (by omega) (by omega) h
  omega
theorem rJ6_bitCount_0 : aAll 185 0 53 = true := by decide +kernel
theorem rJ6_bitCount (pc : Nat) (w : AI) (h : amCd 185 pc = some w) : aRow 185 pc w = true := by
  have hb : pc < 53 := Nat.le_of_ble_eq_true (aGd h)
  by_cases h0 : pc < 53
  · exact aAll_of rJ6_bitCount_0 (by omega) (by omega) h
  omega
theorem rJ9_max_0 : aAll 186 0 11 = true := by decide +kernel
theorem rJ9_max (pc : Nat) (w : AI) (h : amCd 186 pc = some w) : aRow 186 pc w = true := by
  have hb : pc < 11 := Nat.le_of_ble_eq_true (aGd h)
  by_cases h0 : pc < 11
  · exact aAll_of rJ9_max_0 (by omega) (by omega) h
  omega
theorem rJ9_min_0 : aAll 187 0 11 = true := by decide +kernel
theorem rJ9_min (pc : Nat) (w : AI) (h : amCd 187 pc = some w) : aRow 187 pc w = true := by
  have hb : pc < 11 := Nat.le_of_ble_eq_true (aGd h)
  by_cases h0 : pc < 11
  · exact aAll_of rJ9_min_0 (by omega) (by omega) h
  omega
theorem rL_law_0 : aAll 188 0 100 = true := by decide +kernel
theorem rL_law_100 : aAll 188 100 100 = true := by decide +kernel
theorem rL_law_200 : aAll 188 200 100 = true := by decide +kernel
theorem rL_law_300 : aAll 188 300 100 = true := by decide +kernel
theorem rL_law_400 : aAll 188 400 100 = true := by decide +kernel
theorem rL_law_500 : aAll 188 500 100 = true := by decide +kernel
theorem rL_law_600 : aAll 188 600 100 = true := by decide +kernel
theorem rL_law_700 : aAll 188 700 100 = true := by decide +kernel
theorem rL_law_800 : aAll 188 800 100 = true := by decide +kernel
theorem rL_law_900 : aAll 188 900 100 = true := by decide +kernel
theorem rL_law_1000 : aAll 188 1000 100 = true := by decide +kernel
theorem rL_law_1100 : aAll 188 1100 100 = true := by decide +kernel
theorem rL_law_1200 : aAll 188 1200 44 = true := by decide +kernel
theorem rL_law (pc : Nat) (w : AI) (h : amCd 188 pc = some w) : aRow 188 pc w = true := by
  have hb : pc < 1244 := Nat.le_of_ble_eq_true (aGd h)
  by_cases h0 : pc < 100
  · exact aAll_of rL_law_0 (by omega) (by omega) h
  by_cases h100 : pc < 200
  · exact aAll_of rL_law_100 (by omega) (by omega) h
  by_cases h200 : pc < 300
  · exact aAll_of rL_law_200 (by omega) (by omega) h
  by_cases h300 : pc < 400
  · exact aAll_of rL_law_300 (by omega) (by omega) h
  by_cases h400 : pc < 500
  · exact aAll_of rL_law_400 (by omega) (by omega) h
  by_cases h500 : pc < 600
  · exact aAll_of rL_law_500 (by omega) (by omega) h
  by_cases h600 : pc < 700
  · exact aAll_of rL_law_600 (by omega) (by omega) h
  by_cases h700 : pc < 800
  · exact aAll_of rL_law_700 (by omega) (by omega) h
  by_cases h800 : pc < 900
  · exact aAll_of rL_law_800 (by omega) (by omega) h
  by_cases h900 : pc < 1000
  · exact aAll_of rL_law_900 (by omega) (by omega) h
  by_cases h1000 : pc < 1100
  · exact aAll_of rL_law_1000 (by omega) (by omega) h
  by_cases h1100 : pc < 1200
  · exact aAll_of rL_law_1100 (by omega) (by omega) h
  by_cases h1200 : pc < 1244
  · exact aAll_of rL_law_1200 (by omega) (by omega) h
  omega
