set_option maxRecDepth 20000 in
theorem ggX0_feed_X0_isCount : GoodIn wsX0_feed wsX0_isCount := goodIn_r _ [10] (by decide +kernel) (by decide +kernel)
set_option maxRecDepth 20000 in
theorem gX0_feed_X0_isCount : GoodIn wsX0_feed (va_wsS RX0 56 yX0_isCount wsX0_isCount) := goodIn_app (goodIn_of _ (by decide +kernel)) ggX0_feed_X0_isCount
set_option maxRecDepth 20000 in
theorem ggX0_feed_X0_turnBytes : GoodIn wsX0_feed wsX0_turnBytes := goodIn_r _ [13, 14] (by decide +kernel) (by decide +kernel)
set_option maxRecDepth 20000 in
theorem gX0_feed_X0_turnBytes : GoodIn wsX0_feed (va_wsS RX0 72 yX0_turnBytes wsX0_turnBytes) := goodIn_app (goodIn_of _ (by decide +kernel)) ggX0_feed_X0_turnBytes
set_option maxRecDepth 20000 in
theorem ggX0_write_X0_isCell : GoodIn wsX0_write wsX0_isCell := goodIn_r _ [10, 11, 12, 9, 13] (by decide +kernel) (by decide +kernel)
set_option maxRecDepth 20000 in
theorem gX0_write_X0_isCell : GoodIn wsX0_write (va_wsS RX0 76 yX0_isCell wsX0_isCell) := goodIn_app (goodIn_of _ (by decide +kernel)) ggX0_write_X0_isCell
set_option maxRecDepth 20000 in
theorem ggX0_write_X0_isLive : GoodIn wsX0_write wsX0_isLive := goodIn_r _ [17, 18, 19, 20, 9, 21, 62, 63, 64, 65, 66, 67, 68, 69, 70, 71, 72, 73] (by decide +kernel) (by decide +kernel)
set_option maxRecDepth 20000 in
theorem gX0_write_X0_isLive : GoodIn wsX0_write (wsV RX0 83 RX0 yX0_isLive wsX0_isLive) := goodIn_app (goodIn_of _ (by decide +kernel)) ggX0_write_X0_isLive
set_option maxRecDepth 20000 in
theorem ggX0_write_X0_drawPower : GoodIn wsX0_write wsX0_drawPower := goodIn_r _ [25, 26, 27, 62, 63, 64, 65, 66, 67, 68, 69, 70, 71, 72, 73] (by decide +kernel) (by decide +kernel)
set_option maxRecDepth 20000 in
theorem gX0_write_X0_drawPower : GoodIn wsX0_write (wsV RX0 88 RX0 yX0_drawPower wsX0_drawPower) := goodIn_app (goodIn_of _ (by decide +kernel)) ggX0_write_X0_drawPower
set_option maxRecDepth 20000 in
theorem ggX0_write_X0_spotOf : GoodIn wsX0_write wsX0_spotOf := goodIn_r _ [21] (by decide +kernel) (by decide +kernel)
set_option maxRecDepth 20000 in
theorem gX0_write_X0_spotOf : GoodIn wsX0_write (va_wsS RX0 92 yX0_spotOf wsX0_spotOf) := goodIn_app (goodIn_of _ (by decide +kernel)) ggX0_write_X0_spotOf
set_option maxRecDepth 20000 in
theorem ggX0_write_X0_putTape : GoodIn wsX0_write wsX0_putTape := goodIn_r _ [31, 32, 33, 34, 35, 36, 37, 38, 39, 40, 41, 9, 42, 43, 44, 45, 46, 47, 48, 49, 50, 51, 52, 18, 62, 63, 64, 65, 66, 67, 68, 69, 70, 71, 72, 73] (by decide +kernel) (by decide +kernel)
set_option maxRecDepth 20000 in
theorem gX0_write_X0_putTape : GoodIn wsX0_write (wsV RX0 96 RX0 yX0_putTape wsX0_putTape) := goodIn_app (goodIn_of _ (by decide +kernel)) ggX0_write_X0_putTape
set_option maxRecDepth 20000 in
theorem ggX0_write_X0_clearTape : GoodIn wsX0_write wsX0_clearTape := goodIn_r _ [56, 32, 57, 58, 59, 60, 61, 62, 63, 64, 65, 66, 67, 68, 69, 70, 71, 72, 73] (by decide +kernel) (by decide +kernel)
set_option maxRecDepth 20000 in
theorem gX0_write_X0_clearTape : GoodIn wsX0_write (wsV RX0 100 RX0 yX0_clearTape wsX0_clearTape) := goodIn_app (goodIn_of _ (by decide +kernel)) ggX0_write_X0_clearTape
set_option maxRecDepth 20000 in
theorem ggX0_read_X0_needCell : GoodIn wsX0_read wsX0_needCell := goodIn_ca (goodIn_r _ [12, 13, 14, 15, 16, 11, 17, 18, 19, 20] (by decide +kernel) (by decide +kernel)) (goodIn_sub (fun _ h => List.mem_cons_of_mem _ (List.mem_append_right _ h)) (by decide +kernel))
set_option maxRecDepth 20000 in
theorem gX0_read_X0_needCell : GoodIn wsX0_read (va_wsS RX0 103 yX0_needCell wsX0_needCell) := goodIn_app (goodIn_of _ (by decide +kernel)) ggX0_read_X0_needCell
set_option maxRecDepth 20000 in
theorem ggX0_read_X0_spotOf : GoodIn wsX0_read wsX0_spotOf := goodIn_r _ [23] (by decide +kernel) (by decide +kernel)
set_option maxRecDepth 20000 in
theorem gX0_read_X0_spotOf : GoodIn wsX0_read (va_wsS RX0 92 yX0_spotOf wsX0_spotOf) := goodIn_app (goodIn_of _ (by decide +kernel)) ggX0_read_X0_spotOf
set_option maxRecDepth 20000 in
theorem ggX0_outs_X0_byteOf : GoodIn wsX0_outs wsX0_byteOf := goodIn_r _ [12] (by decide +kernel) (by decide +kernel)
set_option maxRecDepth 20000 in
theorem gX0_outs_X0_byteOf : GoodIn wsX0_outs (va_wsS RX0 122 yX0_byteOf wsX0_byteOf) := goodIn_app (goodIn_of _ (by decide +kernel)) ggX0_outs_X0_byteOf
set_option maxRecDepth 20000 in
theorem ggX0_tag_X0_needCell : GoodIn wsX0_tag wsX0_needCell := goodIn_ca (goodIn_r _ [7, 8, 9, 10, 11, 6, 12, 13, 14, 15] (by decide +kernel) (by decide +kernel)) (goodIn_sub (fun _ h => List.mem_cons_of_mem _ (List.mem_append_right _ h)) (by decide +kernel))
set_option maxRecDepth 20000 in
theorem gX0_tag_X0_needCell : GoodIn wsX0_tag (va_wsS RX0 103 yX0_needCell wsX0_needCell) := goodIn_app (goodIn_of _ (by decide +kernel)) ggX0_tag_X0_needCell
set_option maxRecDepth 20000 in
theorem ggX0_tag_X0_spotOf : GoodIn wsX0_tag wsX0_spotOf := goodIn_r _ [18] (by decide +kernel) (by decide +kernel)
set_option maxRecDepth 20000 in
theorem gX0_tag_X0_spotOf : GoodIn wsX0_tag (va_wsS RX0 92 yX0_spotOf wsX0_spotOf) := goodIn_app (goodIn_of _ (by decide +kernel)) ggX0_tag_X0_spotOf
set_option maxRecDepth 20000 in
theorem ggX0_cell_X0_needCell : GoodIn wsX0_cell wsX0_needCell := goodIn_ca (goodIn_r _ [5, 6, 7, 8, 9, 4, 10, 11, 12, 13] (by decide +kernel) (by decide +kernel)) (goodIn_sub (fun _ h => List.mem_cons_of_mem _ (List.mem_append_right _ h)) (by decide +kernel))
set_option maxRecDepth 20000 in
theorem gX0_cell_X0_needCell : GoodIn wsX0_cell (va_wsS RX0 103 yX0_needCell wsX0_needCell) := goodIn_app (goodIn_of _ (by decide +kernel)) ggX0_cell_X0_needCell
set_option maxRecDepth 20000 in
theorem ggX0_cell_X0_spotOf : GoodIn wsX0_cell wsX0_spotOf := goodIn_r _ [16] (by decide +kernel) (by decide +kernel)
set_option maxRecDepth 20000 in
theorem gX0_cell_X0_spotOf : GoodIn wsX0_cell (va_wsS RX0 92 yX0_spotOf wsX0_spotOf) := goodIn_app (goodIn_of _ (by decide +kernel)) ggX0_cell_X0_spotOf
set_option maxRecDepth 20000 in
theorem ggX0_at_X0_needCell : GoodIn wsX0_at wsX0_needCell := goodIn_ca (goodIn_r _ [7, 8, 9, 10, 11, 6, 12, 13, 14, 15] (by decide +kernel) (by decide +kernel)) (goodIn_sub (fun _ h => List.mem_cons_of_mem _ (List.mem_append_right _ h)) (by decide +kernel))
set_option maxRecDepth 20000 in
theorem gX0_at_X0_needCell : GoodIn wsX0_at (va_wsS RX0 103 yX0_needCell wsX0_needCell) := goodIn_app (goodIn_of _ (by decide +kernel)) ggX0_at_X0_needCell
set_option maxRecDepth 20000 in
theorem ggX0_at_X0_spotOf : GoodIn wsX0_at wsX0_spotOf := goodIn_r _ [18] (by decide +kernel) (by decide +kernel)
set_option maxRecDepth 20000 in
theorem gX0_at_X0_spotOf : GoodIn wsX0_at (va_wsS RX0 92 yX0_spotOf wsX0_spotOf) := goodIn_app (goodIn_of _ (by decide +kernel)) ggX0_at_X0_spotOf
set_option maxRecDepth 20000 in
theorem ggX0_at_X0_hasBytes : GoodIn wsX0_at wsX0_hasBytes := goodIn_r _ [22, 23, 27, 28, 29, 30, 31, 32, 33, 34, 35, 36, 37, 38] (by decide +kernel) (by decide +kernel)
set_option maxRecDepth 20000 in
theorem gX0_at_X0_hasBytes : GoodIn wsX0_at (wsV RX0 128 RX0 yX0_hasBytes wsX0_hasBytes) := goodIn_app (goodIn_of _ (by decide +kernel)) ggX0_at_X0_hasBytes
set_option maxRecDepth 20000 in
theorem ggX0_at_X0_byteOf : GoodIn wsX0_at wsX0_byteOf := goodIn_r _ [26] (by decide +kernel) (by decide +kernel)
set_option maxRecDepth 20000 in
theorem gX0_at_X0_byteOf : GoodIn wsX0_at (va_wsS RX0 122 yX0_byteOf wsX0_byteOf) := goodIn_app (goodIn_of _ (by decide +kernel)) ggX0_at_X0_byteOf
set_option maxRecDepth 20000 in
theorem ggX0_fail_X0_needDisk : GoodIn wsX0_fail wsX0_needDisk := goodIn_ca (goodIn_r _ [5, 6, 7, 8, 9, 4, 10] (by decide +kernel) (by decide +kernel)) (goodIn_sub (fun _ h => List.mem_cons_of_mem _ (List.mem_append_right _ h)) (by decide +kernel))
set_option maxRecDepth 20000 in
theorem gX0_fail_X0_needDisk : GoodIn wsX0_fail (va_wsS RX0 133 yX0_needDisk wsX0_needDisk) := goodIn_app (goodIn_of _ (by decide +kernel)) ggX0_fail_X0_needDisk
set_option maxRecDepth 20000 in
theorem ggX0_fail_X0_isLive : GoodIn wsX0_fail wsX0_isLive := goodIn_r _ [14, 15, 16, 17, 4, 18, 28, 29, 30, 31, 32, 33, 34, 35, 36, 37, 38, 39] (by decide +kernel) (by decide +kernel)
set_option maxRecDepth 20000 in
theorem gX0_fail_X0_isLive : GoodIn wsX0_fail (wsV RX0 83 RX0 yX0_isLive wsX0_isLive) := goodIn_app (goodIn_of _ (by decide +kernel)) ggX0_fail_X0_isLive
set_option maxRecDepth 20000 in
theorem ggX0_fail_X0_setKindOfAll : GoodIn wsX0_fail wsX0_setKindOfAll := goodIn_r _ [22, 16, 17, 4, 18, 23, 24, 25, 26, 27, 15, 28, 29, 30, 31, 32, 33, 34, 35, 36, 37, 38, 39] (by decide +kernel) (by decide +kernel)
set_option maxRecDepth 20000 in
theorem gX0_fail_X0_setKindOfAll : GoodIn wsX0_fail (wsV RX0 137 RX0 yX0_setKindOfAll wsX0_setKindOfAll) := goodIn_app (goodIn_of _ (by decide +kernel)) ggX0_fail_X0_setKindOfAll
set_option maxRecDepth 20000 in
theorem ggX0_replace_X0_needDisk : GoodIn wsX0_replace wsX0_needDisk := goodIn_ca (goodIn_r _ [5, 6, 7, 8, 9, 4, 10] (by decide +kernel) (by decide +kernel)) (goodIn_sub (fun _ h => List.mem_cons_of_mem _ (List.mem_append_right _ h)) (by decide +kernel))
set_option maxRecDepth 20000 in
theorem gX0_replace_X0_needDisk : GoodIn wsX0_replace (va_wsS RX0 133 yX0_needDisk wsX0_needDisk) := goodIn_app (goodIn_of _ (by decide +kernel)) ggX0_replace_X0_needDisk
set_option maxRecDepth 20000 in
theorem ggX0_replace_X0_isLive : GoodIn wsX0_replace wsX0_isLive := goodIn_r _ [14, 15, 16, 17, 4, 18, 28, 29, 30, 31, 32, 33, 34, 35, 36, 37, 38, 39] (by decide +kernel) (by decide +kernel)
set_option maxRecDepth 20000 in
theorem gX0_replace_X0_isLive : GoodIn wsX0_replace (wsV RX0 83 RX0 yX0_isLive wsX0_isLive) := goodIn_app (goodIn_of _ (by decide +kernel)) ggX0_replace_X0_isLive
set_option maxRecDepth 20000 in
theorem ggX0_replace_X0_setKindOfAll : GoodIn wsX0_replace wsX0_setKindOfAll := goodIn_r _ [22, 16, 17, 4, 18, 23, 24, 25, 26, 27, 15, 28, 29, 30, 31, 32, 33, 34, 35, 36, 37, 38, 39] (by decide +kernel) (by decide +kernel)
set_option maxRecDepth 20000 in
theorem gX0_replace_X0_setKindOfAll : GoodIn wsX0_replace (wsV RX0 137 RX0 yX0_setKindOfAll wsX0_setKindOfAll) := goodIn_app (goodIn_of _ (by decide +kernel)) ggX0_replace_X0_setKindOfAll
set_option maxRecDepth 20000 in
theorem ggX0_corrupt_X0_isCell : GoodIn wsX0_corrupt wsX0_isCell := goodIn_r _ [7, 8, 9, 6, 10] (by decide +kernel) (by decide +kernel)
set_option maxRecDepth 20000 in
theorem gX0_corrupt_X0_isCell : GoodIn wsX0_corrupt (va_wsS RX0 76 yX0_isCell wsX0_isCell) := goodIn_app (goodIn_of _ (by decide +kernel)) ggX0_corrupt_X0_isCell
set_option maxRecDepth 20000 in
theorem ggX0_corrupt_X0_isCount : GoodIn wsX0_corrupt wsX0_isCount := goodIn_r _ [13] (by decide +kernel) (by decide +kernel)
set_option maxRecDepth 20000 in
theorem gX0_corrupt_X0_isCount : GoodIn wsX0_corrupt (va_wsS RX0 56 yX0_isCount wsX0_isCount) := goodIn_app (goodIn_of _ (by decide +kernel)) ggX0_corrupt_X0_isCount
set_option maxRecDepth 20000 in
theorem ggX0_corrupt_X0_spotOf : GoodIn wsX0_corrupt wsX0_spotOf := goodIn_r _ [16] (by decide +kernel) (by decide +kernel)
set_option maxRecDepth 20000 in
theorem gX0_corrupt_X0_spotOf : GoodIn wsX0_corrupt (va_wsS RX0 92 yX0_spotOf wsX0_spotOf) := goodIn_app (goodIn_of _ (by decide +kernel)) ggX0_corrupt_X0_spotOf
set_option maxRecDepth 20000 in
theorem ggX0_corrupt_X0_hasBytes : GoodIn wsX0_corrupt wsX0_hasBytes := goodIn_r _ [20, 21, 49, 50, 51, 52, 53, 54, 55, 56, 57, 58, 59, 60] (by decide +kernel) (by decide +kernel)
set_option maxRecDepth 20000 in
theorem gX0_corrupt_X0_hasBytes : GoodIn wsX0_corrupt (wsV RX0 128 RX0 yX0_hasBytes wsX0_hasBytes) := goodIn_app (goodIn_of _ (by decide +kernel)) ggX0_corrupt_X0_hasBytes
set_option maxRecDepth 20000 in
theorem ggX0_corrupt_X0_turnBytes : GoodIn wsX0_corrupt wsX0_turnBytes := goodIn_r _ [24, 25] (by decide +kernel) (by decide +kernel)
set_option maxRecDepth 20000 in
theorem gX0_corrupt_X0_turnBytes : GoodIn wsX0_corrupt (va_wsS RX0 72 yX0_turnBytes wsX0_turnBytes) := goodIn_app (goodIn_of _ (by decide +kernel)) ggX0_corrupt_X0_turnBytes
set_option maxRecDepth 20000 in
theorem ggX0_corrupt_X0_isAsWritten : GoodIn wsX0_corrupt wsX0_isAsWritten := goodIn_r _ [29, 3, 30, 49, 50, 51, 52, 53, 54, 55, 56, 57, 58, 59, 60] (by decide +kernel) (by decide +kernel)
set_option maxRecDepth 20000 in
theorem gX0_corrupt_X0_isAsWritten : GoodIn wsX0_corrupt (wsV RX0 142 RX0 yX0_isAsWritten wsX0_isAsWritten) := goodIn_app (goodIn_of _ (by decide +kernel)) ggX0_corrupt_X0_isAsWritten
set_option maxRecDepth 20000 in
theorem ggX0_corrupt_X0_setKind : GoodIn wsX0_corrupt wsX0_setKind := goodIn_r _ [34, 35, 21, 49, 50, 51, 52, 53, 54, 55, 56, 57, 58, 59, 60] (by decide +kernel) (by decide +kernel)
set_option maxRecDepth 20000 in
theorem gX0_corrupt_X0_setKind : GoodIn wsX0_corrupt (wsV RX0 145 RX0 yX0_setKind wsX0_setKind) := goodIn_app (goodIn_of _ (by decide +kernel)) ggX0_corrupt_X0_setKind
set_option maxRecDepth 20000 in
theorem ggX0_corrupt_X0_hasItsCheck : GoodIn wsX0_corrupt wsX0_hasItsCheck := goodIn_r _ [39, 3, 40, 41, 42, 6, 43, 44, 45, 46, 47, 48, 49, 50, 51, 52, 53, 54, 55, 56, 57, 58, 59, 60] (by decide +kernel) (by decide +kernel)
set_option maxRecDepth 20000 in
theorem gX0_corrupt_X0_hasItsCheck : GoodIn wsX0_corrupt (wsV RX0 148 RX0 yX0_hasItsCheck wsX0_hasItsCheck) := goodIn_app (goodIn_of _ (by decide +kernel)) ggX0_corrupt_X0_hasItsCheck
set_option maxRecDepth 20000 in
theorem ggX0_isCell_X0_isDisk : GoodIn wsX0_isCell wsX0_isDisk := goodIn_r _ [4] (by decide +kernel) (by decide +kernel)
set_option maxRecDepth 20000 in
theorem gX0_isCell_X0_isDisk : GoodIn wsX0_isCell (va_wsS RX0 157 yX0_isDisk wsX0_isDisk) := goodIn_app (goodIn_of _ (by decide +kernel)) ggX0_isCell_X0_isDisk
set_option maxRecDepth 20000 in
theorem ggX0_needDisk_X0_isDisk : GoodIn wsX0_needDisk wsX0_isDisk := goodIn_r _ [6] (by decide +kernel) (by decide +kernel)
set_option maxRecDepth 20000 in
theorem gX0_needDisk_X0_isDisk : GoodIn wsX0_needDisk (va_wsS RX0 157 yX0_isDisk wsX0_isDisk) := goodIn_app (goodIn_of _ (by decide +kernel)) ggX0_needDisk_X0_isDisk
set_option maxRecDepth 20000 in
theorem ggX0_needCell_X0_isCell : GoodIn wsX0_needCell wsX0_isCell := goodIn_r _ [6, 7, 8, 5, 9] (by decide +kernel) (by decide +kernel)
set_option maxRecDepth 20000 in
theorem gX0_needCell_X0_isCell : GoodIn wsX0_needCell (va_wsS RX0 76 yX0_isCell wsX0_isCell) := goodIn_app (goodIn_of _ (by decide +kernel)) ggX0_needCell_X0_isCell
set_option maxRecDepth 20000 in
theorem ggX0_isLive_X0_spotOf : GoodIn wsX0_isLive wsX0_spotOf := goodIn_r _ [5] (by decide +kernel) (by decide +kernel)
set_option maxRecDepth 20000 in
theorem gX0_isLive_X0_spotOf : GoodIn wsX0_isLive (va_wsS RX0 92 yX0_spotOf wsX0_spotOf) := goodIn_app (goodIn_of _ (by decide +kernel)) ggX0_isLive_X0_spotOf
set_option maxRecDepth 20000 in
theorem ggX0_setKindOfAll_X0_spotOf : GoodIn wsX0_setKindOfAll wsX0_spotOf := goodIn_r _ [4] (by decide +kernel) (by decide +kernel)
set_option maxRecDepth 20000 in
theorem gX0_setKindOfAll_X0_spotOf : GoodIn wsX0_setKindOfAll (va_wsS RX0 92 yX0_spotOf wsX0_spotOf) := goodIn_app (goodIn_of _ (by decide +kernel)) ggX0_setKindOfAll_X0_spotOf
set_option maxRecDepth 20000 in
theorem ggX0_setKindOfAll_X0_setKind : GoodIn wsX0_setKindOfAll wsX0_setKind := goodIn_r _ [8, 9, 10, 11, 12, 13, 14, 15, 16, 17, 18, 19, 20, 21, 22] (by decide +kernel) (by decide +kernel)
set_option maxRecDepth 20000 in
theorem gX0_setKindOfAll_X0_setKind : GoodIn wsX0_setKindOfAll (wsV RX0 145 RX0 yX0_setKind wsX0_setKind) := goodIn_app (goodIn_of _ (by decide +kernel)) ggX0_setKindOfAll_X0_setKind
set_option maxRecDepth 20000 in
theorem ggX0_putTape_X0_checkOf : GoodIn wsX0_putTape wsX0_checkOf := goodIn_r _ [12, 13, 2, 14, 15, 16, 11, 17, 24, 25, 26, 27, 28, 29, 30, 31, 32, 33, 34, 35] (by decide +kernel) (by decide +kernel)
set_option maxRecDepth 20000 in
theorem gX0_putTape_X0_checkOf : GoodIn wsX0_putTape (wsV RX0 164 RX0 yX0_checkOf wsX0_checkOf) := goodIn_app (goodIn_of _ (by decide +kernel)) ggX0_putTape_X0_checkOf
set_option maxRecDepth 20000 in
theorem ggX0_putTape_X0_setKind : GoodIn wsX0_putTape wsX0_setKind := goodIn_r _ [21, 22, 23, 24, 25, 26, 27, 28, 29, 30, 31, 32, 33, 34, 35] (by decide +kernel) (by decide +kernel)
set_option maxRecDepth 20000 in
theorem gX0_putTape_X0_setKind : GoodIn wsX0_putTape (wsV RX0 145 RX0 yX0_setKind wsX0_setKind) := goodIn_app (goodIn_of _ (by decide +kernel)) ggX0_putTape_X0_setKind
set_option maxRecDepth 20000 in
theorem ggX0_clearTape_J7_fill_d0a16 : GoodIn wsX0_clearTape wsJ7_fill_d0a16 := goodIn_r _ [6] (by decide +kernel) (by decide +kernel)
set_option maxRecDepth 20000 in
theorem gX0_clearTape_J7_fill_d0a16 : GoodIn wsX0_clearTape (va_wsS RX0 168 yJ7_fill_d0a16 wsJ7_fill_d0a16) := goodIn_app (goodIn_of _ (by decide +kernel)) ggX0_clearTape_J7_fill_d0a16
set_option maxRecDepth 20000 in
theorem ggX0_hasItsCheck_X0_checkOf : GoodIn wsX0_hasItsCheck wsX0_checkOf := goodIn_r _ [6, 7, 1, 8, 9, 10, 5, 11, 12, 13, 14, 15, 16, 17, 18, 19, 20, 21, 22, 23] (by decide +kernel) (by decide +kernel)
set_option maxRecDepth 20000 in
theorem gX0_hasItsCheck_X0_checkOf : GoodIn wsX0_hasItsCheck (wsV RX0 164 RX0 yX0_checkOf wsX0_checkOf) := goodIn_app (goodIn_of _ (by decide +kernel)) ggX0_hasItsCheck_X0_checkOf
set_option maxRecDepth 20000 in
theorem ggX0_checkOf_X0_byteOf : GoodIn wsX0_checkOf wsX0_byteOf := goodIn_r _ [7] (by decide +kernel) (by decide +kernel)
set_option maxRecDepth 20000 in
theorem gX0_checkOf_X0_byteOf : GoodIn wsX0_checkOf (va_wsS RX0 122 yX0_byteOf wsX0_byteOf) := goodIn_app (goodIn_of _ (by decide +kernel)) ggX0_checkOf_X0_byteOf
set_option maxRecDepth 20000 in
theorem ggX1_none_X1_within : GoodIn wsX1_none wsX1_within := goodIn_r _ [4] (by decide +kernel) (by decide +kernel)
set_option maxRecDepth 20000 in
theorem gX1_none_X1_within : GoodIn wsX1_none (va_wsS RX1 44 yX1_within wsX1_within) := goodIn_app (goodIn_of _ (by decide +kernel)) ggX1_none_X1_within
set_option maxRecDepth 20000 in
theorem ggX1_check_X1_spread : GoodIn wsX1_check wsX1_spread := goodIn_r _ [7, 2, 13, 14, 15, 16, 17, 18, 19, 20, 21, 22, 23, 24, 25] (by decide +kernel) (by decide +kernel)
set_option maxRecDepth 20000 in
theorem gX1_check_X1_spread : GoodIn wsX1_check (wsV RX1 50 RX1 yX1_spread wsX1_spread) := goodIn_app (goodIn_of _ (by decide +kernel)) ggX1_check_X1_spread
set_option maxRecDepth 20000 in
theorem ggX1_check_X1_divide : GoodIn wsX1_check wsX1_divide := goodIn_r _ [11, 2, 12, 13, 14, 15, 16, 17, 18, 19, 20, 21, 22, 23, 24, 25] (by decide +kernel) (by decide +kernel)
set_option maxRecDepth 20000 in
theorem gX1_check_X1_divide : GoodIn wsX1_check (wsV RX1 54 RX1 yX1_divide wsX1_divide) := goodIn_app (goodIn_of _ (by decide +kernel)) ggX1_check_X1_divide
set_option maxRecDepth 20000 in
theorem ggX1_isUnseen_X1_spread : GoodIn wsX1_isUnseen wsX1_spread := goodIn_r _ [7, 2, 13, 14, 15, 16, 17, 18, 19, 20, 21, 22, 23, 24, 25] (by decide +kernel) (by decide +kernel)
set_option maxRecDepth 20000 in
theorem gX1_isUnseen_X1_spread : GoodIn wsX1_isUnseen (wsV RX1 50 RX1 yX1_spread wsX1_spread) := goodIn_app (goodIn_of _ (by decide +kernel)) ggX1_isUnseen_X1_spread
set_option maxRecDepth 20000 in
theorem ggX1_isUnseen_X1_divide : GoodIn wsX1_isUnseen wsX1_divide := goodIn_r _ [11, 2, 12, 13, 14, 15, 16, 17, 18, 19, 20, 21, 22, 23, 24, 25] (by decide +kernel) (by decide +kernel)
set_option maxRecDepth 20000 in
theorem gX1_isUnseen_X1_divide : GoodIn wsX1_isUnseen (wsV RX1 54 RX1 yX1_divide wsX1_divide) := goodIn_app (goodIn_of _ (by decide +kernel)) ggX1_isUnseen_X1_divide
set_option maxRecDepth 20000 in
theorem ggX1_stateOf_X1_spot : GoodIn wsX1_stateOf wsX1_spot := goodIn_r _ [6] (by decide +kernel) (by decide +kernel)
set_option maxRecDepth 20000 in
theorem gX1_stateOf_X1_spot : GoodIn wsX1_stateOf (va_wsS RX1 58 yX1_spot wsX1_spot) := goodIn_app (goodIn_of _ (by decide +kernel)) ggX1_stateOf_X1_spot
set_option maxRecDepth 20000 in
theorem ggX1_stateOf_X1_isDamaged : GoodIn wsX1_stateOf wsX1_isDamaged := goodIn_r _ [10, 11, 12, 13, 14, 15, 16, 17, 18, 19, 20, 21, 22, 23, 24] (by decide +kernel) (by decide +kernel)
set_option maxRecDepth 20000 in
theorem gX1_stateOf_X1_isDamaged : GoodIn wsX1_stateOf (wsV RX1 62 RX1 yX1_isDamaged wsX1_isDamaged) := goodIn_app (goodIn_of _ (by decide +kernel)) ggX1_stateOf_X1_isDamaged
set_option maxRecDepth 20000 in
theorem ggX1_feed_X1_within : GoodIn wsX1_feed wsX1_within := goodIn_r _ [7] (by decide +kernel) (by decide +kernel)
set_option maxRecDepth 20000 in
theorem gX1_feed_X1_within : GoodIn wsX1_feed (va_wsS RX1 44 yX1_within wsX1_within) := goodIn_app (goodIn_of _ (by decide +kernel)) ggX1_feed_X1_within
set_option maxRecDepth 20000 in
theorem ggX1_feed_X1_fails : GoodIn wsX1_feed wsX1_fails := goodIn_r _ [11, 12, 13, 14, 15, 16, 17, 18, 19, 20, 21, 22, 23, 24, 25] (by decide +kernel) (by decide +kernel)
set_option maxRecDepth 20000 in
theorem gX1_feed_X1_fails : GoodIn wsX1_feed (wsV RX1 66 RX1 yX1_fails wsX1_fails) := goodIn_app (goodIn_of _ (by decide +kernel)) ggX1_feed_X1_fails
set_option maxRecDepth 20000 in
theorem ggX1_write_X1_none : GoodIn wsX1_write wsX1_none := goodIn_r _ [14, 15, 16, 13, 17] (by decide +kernel) (by decide +kernel)
set_option maxRecDepth 20000 in
theorem gX1_write_X1_none : GoodIn wsX1_write (va_wsS RX1 75 yX1_none wsX1_none) := goodIn_app (goodIn_of _ (by decide +kernel)) ggX1_write_X1_none
set_option maxRecDepth 20000 in
theorem ggX1_write_X1_within : GoodIn wsX1_write wsX1_within := goodIn_r _ [17] (by decide +kernel) (by decide +kernel)
set_option maxRecDepth 20000 in
theorem gX1_write_X1_within : GoodIn wsX1_write (va_wsS RX1 44 yX1_within wsX1_within) := goodIn_app (goodIn_of _ (by decide +kernel)) ggX1_write_X1_within
set_option maxRecDepth 20000 in
theorem ggX1_write_X1_fails : GoodIn wsX1_write wsX1_fails := goodIn_r _ [21, 22, 40, 41, 42, 43, 44, 45, 46, 47, 48, 49, 50, 51, 52] (by decide +kernel) (by decide +kernel)
set_option maxRecDepth 20000 in
theorem gX1_write_X1_fails : GoodIn wsX1_write (wsV RX1 66 RX1 yX1_fails wsX1_fails) := goodIn_app (goodIn_of _ (by decide +kernel)) ggX1_write_X1_fails
set_option maxRecDepth 20000 in
theorem ggX1_write_X1_spot : GoodIn wsX1_write wsX1_spot := goodIn_r _ [25] (by decide +kernel) (by decide +kernel)
set_option maxRecDepth 20000 in
theorem gX1_write_X1_spot : GoodIn wsX1_write (va_wsS RX1 58 yX1_spot wsX1_spot) := goodIn_app (goodIn_of _ (by decide +kernel)) ggX1_write_X1_spot
set_option maxRecDepth 20000 in
theorem ggX1_write_X1_check : GoodIn wsX1_write wsX1_check := goodIn_r _ [29, 9, 30, 31, 32, 33, 13, 34, 35, 36, 37, 38, 39, 40, 41, 42, 43, 44, 45, 46, 47, 48, 49, 50, 51, 52] (by decide +kernel) (by decide +kernel)
set_option maxRecDepth 20000 in
theorem gX1_write_X1_check : GoodIn wsX1_write (wsV RX1 87 RX1 yX1_check wsX1_check) := goodIn_app (goodIn_of _ (by decide +kernel)) ggX1_write_X1_check
set_option maxRecDepth 20000 in
theorem ggX1_read_X1_none : GoodIn wsX1_read wsX1_none := goodIn_r _ [6, 7, 8, 5, 9] (by decide +kernel) (by decide +kernel)
set_option maxRecDepth 20000 in
theorem gX1_read_X1_none : GoodIn wsX1_read (va_wsS RX1 75 yX1_none wsX1_none) := goodIn_app (goodIn_of _ (by decide +kernel)) ggX1_read_X1_none
set_option maxRecDepth 20000 in
theorem ggX1_read_X1_fails : GoodIn wsX1_read wsX1_fails := goodIn_r _ [13, 14, 34, 35, 36, 37, 38, 39, 40, 41, 42, 43, 44, 45, 46] (by decide +kernel) (by decide +kernel)
set_option maxRecDepth 20000 in
theorem gX1_read_X1_fails : GoodIn wsX1_read (wsV RX1 66 RX1 yX1_fails wsX1_fails) := goodIn_app (goodIn_of _ (by decide +kernel)) ggX1_read_X1_fails
set_option maxRecDepth 20000 in
theorem ggX1_read_X1_stateOf : GoodIn wsX1_read wsX1_stateOf := goodIn_r _ [18, 19, 20, 21, 22, 5, 23, 24, 25, 26, 27, 28, 34, 35, 36, 37, 38, 39, 40, 41, 42, 43, 44, 45, 46] (by decide +kernel) (by decide +kernel)
set_option maxRecDepth 20000 in
theorem gX1_read_X1_stateOf : GoodIn wsX1_read (wsV RX1 93 RX1 yX1_stateOf wsX1_stateOf) := goodIn_app (goodIn_of _ (by decide +kernel)) ggX1_read_X1_stateOf
set_option maxRecDepth 20000 in
theorem ggX1_read_X1_spot : GoodIn wsX1_read wsX1_spot := goodIn_r _ [23] (by decide +kernel) (by decide +kernel)
set_option maxRecDepth 20000 in
theorem gX1_read_X1_spot : GoodIn wsX1_read (va_wsS RX1 58 yX1_spot wsX1_spot) := goodIn_app (goodIn_of _ (by decide +kernel)) ggX1_read_X1_spot
set_option maxRecDepth 20000 in
theorem ggX1_read_X1_byteAt : GoodIn wsX1_read wsX1_byteAt := goodIn_r _ [32, 33, 28, 34, 35, 36, 37, 38, 39, 40, 41, 42, 43, 44, 45, 46] (by decide +kernel) (by decide +kernel)
set_option maxRecDepth 20000 in
theorem gX1_read_X1_byteAt : GoodIn wsX1_read (wsV RX1 96 RX1 yX1_byteAt wsX1_byteAt) := goodIn_app (goodIn_of _ (by decide +kernel)) ggX1_read_X1_byteAt
set_option maxRecDepth 20000 in
theorem ggX1_outs_X1_fails : GoodIn wsX1_outs wsX1_fails := goodIn_r _ [7, 8, 9, 10, 11, 12, 13, 14, 15, 16, 17, 18, 19, 20, 21] (by decide +kernel) (by decide +kernel)
set_option maxRecDepth 20000 in
theorem gX1_outs_X1_fails : GoodIn wsX1_outs (wsV RX1 66 RX1 yX1_fails wsX1_fails) := goodIn_app (goodIn_of _ (by decide +kernel)) ggX1_outs_X1_fails
set_option maxRecDepth 20000 in
theorem ggX1_tag_X1_none : GoodIn wsX1_tag wsX1_none := goodIn_r _ [4, 5, 6, 3, 7] (by decide +kernel) (by decide +kernel)
set_option maxRecDepth 20000 in
theorem gX1_tag_X1_none : GoodIn wsX1_tag (va_wsS RX1 75 yX1_none wsX1_none) := goodIn_app (goodIn_of _ (by decide +kernel)) ggX1_tag_X1_none
set_option maxRecDepth 20000 in
theorem ggX1_tag_X1_fails : GoodIn wsX1_tag wsX1_fails := goodIn_r _ [11, 12, 32, 33, 34, 35, 36, 37, 38, 39, 40, 41, 42, 43, 44] (by decide +kernel) (by decide +kernel)
set_option maxRecDepth 20000 in
theorem gX1_tag_X1_fails : GoodIn wsX1_tag (wsV RX1 66 RX1 yX1_fails wsX1_fails) := goodIn_app (goodIn_of _ (by decide +kernel)) ggX1_tag_X1_fails
set_option maxRecDepth 20000 in
theorem ggX1_tag_X1_spot : GoodIn wsX1_tag wsX1_spot := goodIn_r _ [15] (by decide +kernel) (by decide +kernel)
set_option maxRecDepth 20000 in
theorem gX1_tag_X1_spot : GoodIn wsX1_tag (va_wsS RX1 58 yX1_spot wsX1_spot) := goodIn_app (goodIn_of _ (by decide +kernel)) ggX1_tag_X1_spot
set_option maxRecDepth 20000 in
theorem ggX1_tag_X1_stateOf : GoodIn wsX1_tag wsX1_stateOf := goodIn_r _ [19, 20, 21, 13, 14, 3, 15, 22, 23, 24, 25, 26, 32, 33, 34, 35, 36, 37, 38, 39, 40, 41, 42, 43, 44] (by decide +kernel) (by decide +kernel)
set_option maxRecDepth 20000 in
theorem gX1_tag_X1_stateOf : GoodIn wsX1_tag (wsV RX1 93 RX1 yX1_stateOf wsX1_stateOf) := goodIn_app (goodIn_of _ (by decide +kernel)) ggX1_tag_X1_stateOf
set_option maxRecDepth 20000 in
theorem ggX1_tag_X1_byteAt : GoodIn wsX1_tag wsX1_byteAt := goodIn_r _ [30, 31, 26, 32, 33, 34, 35, 36, 37, 38, 39, 40, 41, 42, 43, 44] (by decide +kernel) (by decide +kernel)
set_option maxRecDepth 20000 in
theorem gX1_tag_X1_byteAt : GoodIn wsX1_tag (wsV RX1 96 RX1 yX1_byteAt wsX1_byteAt) := goodIn_app (goodIn_of _ (by decide +kernel)) ggX1_tag_X1_byteAt
set_option maxRecDepth 20000 in
theorem ggX1_cell_X1_none : GoodIn wsX1_cell wsX1_none := goodIn_r _ [4, 5, 6, 3, 7] (by decide +kernel) (by decide +kernel)
set_option maxRecDepth 20000 in
theorem gX1_cell_X1_none : GoodIn wsX1_cell (va_wsS RX1 75 yX1_none wsX1_none) := goodIn_app (goodIn_of _ (by decide +kernel)) ggX1_cell_X1_none
set_option maxRecDepth 20000 in
theorem ggX1_cell_X1_fails : GoodIn wsX1_cell wsX1_fails := goodIn_r _ [11, 12, 27, 28, 29, 30, 31, 32, 33, 34, 35, 36, 37, 38, 39] (by decide +kernel) (by decide +kernel)
set_option maxRecDepth 20000 in
theorem gX1_cell_X1_fails : GoodIn wsX1_cell (wsV RX1 66 RX1 yX1_fails wsX1_fails) := goodIn_app (goodIn_of _ (by decide +kernel)) ggX1_cell_X1_fails
set_option maxRecDepth 20000 in
theorem ggX1_cell_X1_stateOf : GoodIn wsX1_cell wsX1_stateOf := goodIn_r _ [16, 17, 18, 19, 20, 3, 21, 22, 23, 24, 25, 26, 27, 28, 29, 30, 31, 32, 33, 34, 35, 36, 37, 38, 39] (by decide +kernel) (by decide +kernel)
set_option maxRecDepth 20000 in
theorem gX1_cell_X1_stateOf : GoodIn wsX1_cell (wsV RX1 93 RX1 yX1_stateOf wsX1_stateOf) := goodIn_app (goodIn_of _ (by decide +kernel)) ggX1_cell_X1_stateOf
set_option maxRecDepth 20000 in
theorem ggX1_at_X1_none : GoodIn wsX1_at wsX1_none := goodIn_r _ [4, 5, 6, 3, 7] (by decide +kernel) (by decide +kernel)
set_option maxRecDepth 20000 in
theorem gX1_at_X1_none : GoodIn wsX1_at (va_wsS RX1 75 yX1_none wsX1_none) := goodIn_app (goodIn_of _ (by decide +kernel)) ggX1_at_X1_none
set_option maxRecDepth 20000 in
theorem ggX1_at_X1_fails : GoodIn wsX1_at wsX1_fails := goodIn_r _ [11, 12, 32, 33, 34, 35, 36, 37, 38, 39, 40, 41, 42, 43, 44] (by decide +kernel) (by decide +kernel)
set_option maxRecDepth 20000 in
theorem gX1_at_X1_fails : GoodIn wsX1_at (wsV RX1 66 RX1 yX1_fails wsX1_fails) := goodIn_app (goodIn_of _ (by decide +kernel)) ggX1_at_X1_fails
set_option maxRecDepth 20000 in
theorem ggX1_at_X1_stateOf : GoodIn wsX1_at wsX1_stateOf := goodIn_r _ [16, 17, 18, 19, 20, 3, 21, 22, 23, 24, 25, 26, 32, 33, 34, 35, 36, 37, 38, 39, 40, 41, 42, 43, 44] (by decide +kernel) (by decide +kernel)
set_option maxRecDepth 20000 in
theorem gX1_at_X1_stateOf : GoodIn wsX1_at (wsV RX1 93 RX1 yX1_stateOf wsX1_stateOf) := goodIn_app (goodIn_of _ (by decide +kernel)) ggX1_at_X1_stateOf
set_option maxRecDepth 20000 in
theorem ggX1_at_X1_within : GoodIn wsX1_at wsX1_within := goodIn_r _ [7] (by decide +kernel) (by decide +kernel)
set_option maxRecDepth 20000 in
theorem gX1_at_X1_within : GoodIn wsX1_at (va_wsS RX1 44 yX1_within wsX1_within) := goodIn_app (goodIn_of _ (by decide +kernel)) ggX1_at_X1_within
set_option maxRecDepth 20000 in
theorem ggX1_at_X1_spot : GoodIn wsX1_at wsX1_spot := goodIn_r _ [21] (by decide +kernel) (by decide +kernel)
set_option maxRecDepth 20000 in
theorem gX1_at_X1_spot : GoodIn wsX1_at (va_wsS RX1 58 yX1_spot wsX1_spot) := goodIn_app (goodIn_of _ (by decide +kernel)) ggX1_at_X1_spot
set_option maxRecDepth 20000 in
theorem ggX1_at_X1_byteAt : GoodIn wsX1_at wsX1_byteAt := goodIn_r _ [30, 31, 26, 32, 33, 34, 35, 36, 37, 38, 39, 40, 41, 42, 43, 44] (by decide +kernel) (by decide +kernel)
set_option maxRecDepth 20000 in
theorem gX1_at_X1_byteAt : GoodIn wsX1_at (wsV RX1 96 RX1 yX1_byteAt wsX1_byteAt) := goodIn_app (goodIn_of _ (by decide +kernel)) ggX1_at_X1_byteAt
set_option maxRecDepth 20000 in
theorem ggX1_noDisk_X1_within : GoodIn wsX1_noDisk wsX1_within := goodIn_r _ [4] (by decide +kernel) (by decide +kernel)
set_option maxRecDepth 20000 in
theorem gX1_noDisk_X1_within : GoodIn wsX1_noDisk (va_wsS RX1 44 yX1_within wsX1_within) := goodIn_app (goodIn_of _ (by decide +kernel)) ggX1_noDisk_X1_within
set_option maxRecDepth 20000 in
theorem ggX1_fail_X1_noDisk : GoodIn wsX1_fail wsX1_noDisk := goodIn_r _ [5, 6, 7, 4, 8] (by decide +kernel) (by decide +kernel)
set_option maxRecDepth 20000 in
theorem gX1_fail_X1_noDisk : GoodIn wsX1_fail (va_wsS RX1 99 yX1_noDisk wsX1_noDisk) := goodIn_app (goodIn_of _ (by decide +kernel)) ggX1_fail_X1_noDisk
set_option maxRecDepth 20000 in
theorem ggX1_fail_X1_fails : GoodIn wsX1_fail wsX1_fails := goodIn_r _ [12, 13, 14, 15, 16, 17, 18, 19, 20, 21, 22, 23, 24, 25, 26] (by decide +kernel) (by decide +kernel)
set_option maxRecDepth 20000 in
theorem gX1_fail_X1_fails : GoodIn wsX1_fail (wsV RX1 66 RX1 yX1_fails wsX1_fails) := goodIn_app (goodIn_of _ (by decide +kernel)) ggX1_fail_X1_fails
set_option maxRecDepth 20000 in
theorem ggX1_replace_X1_noDisk : GoodIn wsX1_replace wsX1_noDisk := goodIn_r _ [6, 7, 8, 5, 9] (by decide +kernel) (by decide +kernel)
set_option maxRecDepth 20000 in
theorem gX1_replace_X1_noDisk : GoodIn wsX1_replace (va_wsS RX1 99 yX1_noDisk wsX1_noDisk) := goodIn_app (goodIn_of _ (by decide +kernel)) ggX1_replace_X1_noDisk
set_option maxRecDepth 20000 in
theorem ggX1_replace_X1_fails : GoodIn wsX1_replace wsX1_fails := goodIn_r _ [13, 14, 18, 19, 20, 21, 22, 23, 24, 25, 26, 27, 28, 29, 30] (by decide +kernel) (by decide +kernel)
set_option maxRecDepth 20000 in
theorem gX1_replace_X1_fails : GoodIn wsX1_replace (wsV RX1 66 RX1 yX1_fails wsX1_fails) := goodIn_app (goodIn_of _ (by decide +kernel)) ggX1_replace_X1_fails
set_option maxRecDepth 20000 in
theorem ggX1_replace_X1_spot : GoodIn wsX1_replace wsX1_spot := goodIn_r _ [17] (by decide +kernel) (by decide +kernel)
set_option maxRecDepth 20000 in
theorem gX1_replace_X1_spot : GoodIn wsX1_replace (va_wsS RX1 58 yX1_spot wsX1_spot) := goodIn_app (goodIn_of _ (by decide +kernel)) ggX1_replace_X1_spot
set_option maxRecDepth 20000 in
theorem ggX1_corrupt_X1_none : GoodIn wsX1_corrupt wsX1_none := goodIn_r _ [4, 5, 6, 3, 7] (by decide +kernel) (by decide +kernel)
set_option maxRecDepth 20000 in
theorem gX1_corrupt_X1_none : GoodIn wsX1_corrupt (va_wsS RX1 75 yX1_none wsX1_none) := goodIn_app (goodIn_of _ (by decide +kernel)) ggX1_corrupt_X1_none
set_option maxRecDepth 20000 in
theorem ggX1_corrupt_X1_within : GoodIn wsX1_corrupt wsX1_within := goodIn_r _ [7] (by decide +kernel) (by decide +kernel)
set_option maxRecDepth 20000 in
theorem gX1_corrupt_X1_within : GoodIn wsX1_corrupt (va_wsS RX1 44 yX1_within wsX1_within) := goodIn_app (goodIn_of _ (by decide +kernel)) ggX1_corrupt_X1_within
set_option maxRecDepth 20000 in
theorem ggX1_corrupt_X1_fails : GoodIn wsX1_corrupt wsX1_fails := goodIn_r _ [11, 12, 45, 46, 47, 48, 49, 50, 51, 52, 53, 54, 55, 56, 57] (by decide +kernel) (by decide +kernel)
set_option maxRecDepth 20000 in
theorem gX1_corrupt_X1_fails : GoodIn wsX1_corrupt (wsV RX1 66 RX1 yX1_fails wsX1_fails) := goodIn_app (goodIn_of _ (by decide +kernel)) ggX1_corrupt_X1_fails
set_option maxRecDepth 20000 in
theorem ggX1_corrupt_X1_stateOf : GoodIn wsX1_corrupt wsX1_stateOf := goodIn_r _ [16, 17, 18, 19, 20, 3, 21, 22, 23, 24, 25, 26, 45, 46, 47, 48, 49, 50, 51, 52, 53, 54, 55, 56, 57] (by decide +kernel) (by decide +kernel)
set_option maxRecDepth 20000 in
theorem gX1_corrupt_X1_stateOf : GoodIn wsX1_corrupt (wsV RX1 93 RX1 yX1_stateOf wsX1_stateOf) := goodIn_app (goodIn_of _ (by decide +kernel)) ggX1_corrupt_X1_stateOf
set_option maxRecDepth 20000 in
theorem ggX1_corrupt_X1_spot : GoodIn wsX1_corrupt wsX1_spot := goodIn_r _ [21] (by decide +kernel) (by decide +kernel)
set_option maxRecDepth 20000 in
theorem gX1_corrupt_X1_spot : GoodIn wsX1_corrupt (va_wsS RX1 58 yX1_spot wsX1_spot) := goodIn_app (goodIn_of _ (by decide +kernel)) ggX1_corrupt_X1_spot
set_option maxRecDepth 20000 in
theorem ggX1_corrupt_X1_strike : GoodIn wsX1_corrupt wsX1_strike := goodIn_r _ [30, 26, 45, 46, 47, 48, 49, 50, 51, 52, 53, 54, 55, 56, 57] (by decide +kernel) (by decide +kernel)
set_option maxRecDepth 20000 in
theorem gX1_corrupt_X1_strike : GoodIn wsX1_corrupt (wsV RX1 102 RX1 yX1_strike wsX1_strike) := goodIn_app (goodIn_of _ (by decide +kernel)) ggX1_corrupt_X1_strike
set_option maxRecDepth 20000 in
theorem ggX1_corrupt_X1_isDamaged : GoodIn wsX1_corrupt wsX1_isDamaged := goodIn_r _ [25, 26, 45, 46, 47, 48, 49, 50, 51, 52, 53, 54, 55, 56, 57] (by decide +kernel) (by decide +kernel)
set_option maxRecDepth 20000 in
theorem gX1_corrupt_X1_isDamaged : GoodIn wsX1_corrupt (wsV RX1 62 RX1 yX1_isDamaged wsX1_isDamaged) := goodIn_app (goodIn_of _ (by decide +kernel)) ggX1_corrupt_X1_isDamaged
set_option maxRecDepth 20000 in
theorem ggX1_corrupt_X1_isUnseen : GoodIn wsX1_corrupt wsX1_isUnseen := goodIn_r _ [34, 26, 35, 36, 37, 38, 3, 39, 40, 41, 42, 43, 44, 45, 46, 47, 48, 49, 50, 51, 52, 53, 54, 55, 56, 57] (by decide +kernel) (by decide +kernel)
set_option maxRecDepth 20000 in
theorem gX1_corrupt_X1_isUnseen : GoodIn wsX1_corrupt (wsV RX1 106 RX1 yX1_isUnseen wsX1_isUnseen) := goodIn_app (goodIn_of _ (by decide +kernel)) ggX1_corrupt_X1_isUnseen
set_option maxRecDepth 20000 in
theorem ggX1_lose_X1_fails : GoodIn wsX1_lose wsX1_fails := goodIn_r _ [7, 8, 9, 10, 11, 12, 13, 14, 15, 16, 17, 18, 19, 20, 21] (by decide +kernel) (by decide +kernel)
set_option maxRecDepth 20000 in
theorem gX1_lose_X1_fails : GoodIn wsX1_lose (wsV RX1 66 RX1 yX1_fails wsX1_fails) := goodIn_app (goodIn_of _ (by decide +kernel)) ggX1_lose_X1_fails
set_option maxRecDepth 20000 in
theorem ggX1_count_X1_stateOf : GoodIn wsX1_count wsX1_stateOf := goodIn_r _ [5, 6, 7, 8, 9, 4, 10, 11, 12, 13, 14, 15, 16, 17, 18, 19, 20, 21, 22, 23, 24, 25, 26, 27, 28] (by decide +kernel) (by decide +kernel)
set_option maxRecDepth 20000 in
theorem gX1_count_X1_stateOf : GoodIn wsX1_count (wsV RX1 93 RX1 yX1_stateOf wsX1_stateOf) := goodIn_app (goodIn_of _ (by decide +kernel)) ggX1_count_X1_stateOf
set_option maxRecDepth 20000 in
theorem ggX1_look_X1_within : GoodIn wsX1_look wsX1_within := goodIn_r _ [8] (by decide +kernel) (by decide +kernel)
set_option maxRecDepth 20000 in
theorem gX1_look_X1_within : GoodIn wsX1_look (va_wsS RX1 44 yX1_within wsX1_within) := goodIn_app (goodIn_of _ (by decide +kernel)) ggX1_look_X1_within
set_option maxRecDepth 20000 in
theorem ggX1_look_X1_fails : GoodIn wsX1_look wsX1_fails := goodIn_r _ [12, 13, 31, 32, 33, 34, 35, 36, 37, 38, 39, 40, 41, 42, 43] (by decide +kernel) (by decide +kernel)
set_option maxRecDepth 20000 in
theorem gX1_look_X1_fails : GoodIn wsX1_look (wsV RX1 66 RX1 yX1_fails wsX1_fails) := goodIn_app (goodIn_of _ (by decide +kernel)) ggX1_look_X1_fails
set_option maxRecDepth 20000 in
theorem ggX1_look_X1_count : GoodIn wsX1_look wsX1_count := goodIn_r _ [17, 18, 19, 20, 7, 21, 4, 22, 23, 24, 25, 26, 27, 28, 29, 30, 31, 32, 33, 34, 35, 36, 37, 38, 39, 40, 41, 42, 43] (by decide +kernel) (by decide +kernel)
set_option maxRecDepth 20000 in
theorem gX1_look_X1_count : GoodIn wsX1_look (wsV RX1 109 RX1 yX1_count wsX1_count) := goodIn_app (goodIn_of _ (by decide +kernel)) ggX1_look_X1_count
set_option maxRecDepth 20000 in
theorem ggL_feed_X0_feed : GoodIn wsL_feed wsX0_feed := goodIn_ca (goodIn_ca (goodIn_r _ [7, 8, 9, 10, 11, 12, 13, 14, 15, 6, 16, 17, 18, 19, 20, 21, 22, 23, 24, 25, 26, 27, 28, 29, 30, 31, 32] (by decide +kernel) (by decide +kernel)) (goodIn_sub (fun _ h => List.mem_cons_of_mem _ (List.mem_append_left _ (List.mem_append_right _ h))) (by decide +kernel))) (goodIn_sub (fun _ h => List.mem_cons_of_mem _ (List.mem_append_right _ h)) (by decide +kernel))
set_option maxRecDepth 20000 in
theorem gL_feed_X0_feed : GoodIn wsL_feed (wsV RL 7 RX0 yX0_feed wsX0_feed) := goodIn_app (goodIn_of _ (by decide +kernel)) ggL_feed_X0_feed
set_option maxRecDepth 20000 in
theorem ggL_write_X0_write : GoodIn wsL_write wsX0_write := goodIn_ca (goodIn_ca (goodIn_r _ [7, 8, 9, 10, 11, 12, 13, 14, 15, 6, 16, 17, 18, 19, 20, 21, 22, 23, 24, 25, 26, 27, 28, 29, 30, 31, 32, 33, 34, 35, 36, 37, 38, 39, 40, 41, 42, 43, 44, 45, 46, 47, 48, 49, 50, 51, 52, 53, 54, 55, 56, 57, 58, 59, 60, 61, 62, 63, 64, 65, 66, 67, 68, 69, 70, 71, 72, 73, 74, 75, 76, 77, 78, 79] (by decide +kernel) (by decide +kernel)) (goodIn_sub (fun _ h => List.mem_cons_of_mem _ (List.mem_append_left _ (List.mem_append_right _ h))) (by decide +kernel))) (goodIn_sub (fun _ h => List.mem_cons_of_mem _ (List.mem_append_right _ h)) (by decide +kernel))
set_option maxRecDepth 20000 in
theorem gL_write_X0_write : GoodIn wsL_write (wsV RL 17 RX0 yX0_write wsX0_write) := goodIn_app (goodIn_of _ (by decide +kernel)) ggL_write_X0_write
set_option maxRecDepth 20000 in
theorem ggL_read_X0_read : GoodIn wsL_read wsX0_read := goodIn_ca (goodIn_r _ [6, 7, 8, 9, 10, 11, 12, 13, 14, 15, 16, 5, 17, 18, 19, 20, 21, 22, 23, 24, 25, 26, 27, 28, 29, 30, 31, 32, 33, 34, 35, 36, 37, 38, 39, 40] (by decide +kernel) (by decide +kernel)) (goodIn_sub (fun _ h => List.mem_cons_of_mem _ (List.mem_append_right _ h)) (by decide +kernel))
set_option maxRecDepth 20000 in
theorem gL_read_X0_read : GoodIn wsL_read (wsV RL 21 RX0 yX0_read wsX0_read) := goodIn_app (goodIn_of _ (by decide +kernel)) ggL_read_X0_read
set_option maxRecDepth 20000 in
theorem ggL_outs_X0_outs : GoodIn wsL_outs wsX0_outs := goodIn_ca (goodIn_r _ [6, 7, 8, 9, 10, 11, 12, 13, 14, 15, 16, 5, 17, 18, 19, 20, 21, 22, 23, 24, 25, 26, 27, 28, 29] (by decide +kernel) (by decide +kernel)) (goodIn_sub (fun _ h => List.mem_cons_of_mem _ (List.mem_append_right _ h)) (by decide +kernel))
set_option maxRecDepth 20000 in
theorem gL_outs_X0_outs : GoodIn wsL_outs (wsV RL 25 RX0 yX0_outs wsX0_outs) := goodIn_app (goodIn_of _ (by decide +kernel)) ggL_outs_X0_outs
set_option maxRecDepth 20000 in
theorem ggL_tag_X0_tag : GoodIn wsL_tag wsX0_tag := goodIn_ca (goodIn_r _ [6, 7, 8, 9, 10, 11, 5, 12, 13, 14, 15, 16, 17, 18, 19, 20, 21, 22, 23, 24, 25, 26, 27, 28, 29, 30, 31, 32, 33, 34, 35] (by decide +kernel) (by decide +kernel)) (goodIn_sub (fun _ h => List.mem_cons_of_mem _ (List.mem_append_right _ h)) (by decide +kernel))
set_option maxRecDepth 20000 in
theorem gL_tag_X0_tag : GoodIn wsL_tag (wsV RL 31 RX0 yX0_tag wsX0_tag) := goodIn_app (goodIn_of _ (by decide +kernel)) ggL_tag_X0_tag
set_option maxRecDepth 20000 in
theorem ggL_cell_X0_cell : GoodIn wsL_cell wsX0_cell := goodIn_ca (goodIn_r _ [6, 7, 8, 9, 5, 10, 11, 12, 13, 14, 15, 16, 17, 18, 19, 20, 21, 22, 23, 24, 25, 26, 27, 28, 29, 30, 31, 32, 33] (by decide +kernel) (by decide +kernel)) (goodIn_sub (fun _ h => List.mem_cons_of_mem _ (List.mem_append_right _ h)) (by decide +kernel))
set_option maxRecDepth 20000 in
theorem gL_cell_X0_cell : GoodIn wsL_cell (wsV RL 35 RX0 yX0_cell wsX0_cell) := goodIn_app (goodIn_of _ (by decide +kernel)) ggL_cell_X0_cell
set_option maxRecDepth 20000 in
theorem ggL_at_X0_at : GoodIn wsL_at wsX0_at := goodIn_ca (goodIn_ca (goodIn_r _ [7, 8, 9, 10, 11, 12, 6, 13, 14, 15, 16, 17, 18, 19, 20, 21, 22, 23, 24, 25, 26, 27, 28, 29, 30, 31, 32, 33, 34, 35, 36, 37, 38, 39, 40, 41, 42, 43, 44] (by decide +kernel) (by decide +kernel)) (goodIn_sub (fun _ h => List.mem_cons_of_mem _ (List.mem_append_left _ (List.mem_append_right _ h))) (by decide +kernel))) (goodIn_sub (fun _ h => List.mem_cons_of_mem _ (List.mem_append_right _ h)) (by decide +kernel))
set_option maxRecDepth 20000 in
theorem gL_at_X0_at : GoodIn wsL_at (wsV RL 38 RX0 yX0_at wsX0_at) := goodIn_app (goodIn_of _ (by decide +kernel)) ggL_at_X0_at
set_option maxRecDepth 20000 in
theorem ggL_fail_X0_fail : GoodIn wsL_fail wsX0_fail := goodIn_ca (goodIn_r _ [6, 7, 8, 9, 5, 10, 11, 12, 13, 14, 15, 16, 17, 18, 19, 20, 21, 22, 23, 24, 25, 26, 27, 28, 29, 30, 31, 32, 33, 34, 35, 36, 37, 38, 39, 40, 41, 42, 43, 44] (by decide +kernel) (by decide +kernel)) (goodIn_sub (fun _ h => List.mem_cons_of_mem _ (List.mem_append_right _ h)) (by decide +kernel))
set_option maxRecDepth 20000 in
theorem gL_fail_X0_fail : GoodIn wsL_fail (wsV RL 42 RX0 yX0_fail wsX0_fail) := goodIn_app (goodIn_of _ (by decide +kernel)) ggL_fail_X0_fail
set_option maxRecDepth 20000 in
theorem ggL_replace_X0_replace : GoodIn wsL_replace wsX0_replace := goodIn_ca (goodIn_r _ [6, 7, 8, 9, 5, 10, 11, 12, 13, 14, 15, 16, 17, 18, 19, 20, 21, 22, 23, 24, 25, 26, 27, 28, 29, 30, 31, 32, 33, 34, 35, 36, 37, 38, 39, 40, 41, 42, 43, 44] (by decide +kernel) (by decide +kernel)) (goodIn_sub (fun _ h => List.mem_cons_of_mem _ (List.mem_append_right _ h)) (by decide +kernel))
set_option maxRecDepth 20000 in
theorem gL_replace_X0_replace : GoodIn wsL_replace (wsV RL 46 RX0 yX0_replace wsX0_replace) := goodIn_app (goodIn_of _ (by decide +kernel)) ggL_replace_X0_replace
set_option maxRecDepth 20000 in
theorem ggL_corrupt_X0_corrupt : GoodIn wsL_corrupt wsX0_corrupt := goodIn_ca (goodIn_r _ [6, 7, 8, 9, 10, 11, 5, 12, 13, 14, 15, 16, 17, 18, 19, 20, 21, 22, 23, 24, 25, 26, 27, 28, 29, 30, 31, 32, 33, 34, 35, 36, 37, 38, 39, 40, 41, 42, 43, 44, 45, 46, 47, 48, 49, 50, 51, 52, 53, 54, 55, 56, 57, 58, 59, 60, 61, 62, 63, 64, 65] (by decide +kernel) (by decide +kernel)) (goodIn_sub (fun _ h => List.mem_cons_of_mem _ (List.mem_append_right _ h)) (by decide +kernel))
set_option maxRecDepth 20000 in
theorem gL_corrupt_X0_corrupt : GoodIn wsL_corrupt (wsV RL 49 RX0 yX0_corrupt wsX0_corrupt) := goodIn_app (goodIn_of _ (by decide +kernel)) ggL_corrupt_X0_corrupt
set_option maxRecDepth 20000 in
theorem ggL_lose_X0_lose : GoodIn wsL_lose wsX0_lose := goodIn_ca (goodIn_ca (goodIn_r _ [7, 8, 9, 10, 11, 12, 13, 14, 15, 16, 17, 18, 19, 20, 21, 22, 23, 24, 25] (by decide +kernel) (by decide +kernel)) (goodIn_sub (fun _ h => List.mem_cons_of_mem _ (List.mem_append_left _ (List.mem_append_right _ h))) (by decide +kernel))) (goodIn_sub (fun _ h => List.mem_cons_of_mem _ (List.mem_append_right _ h)) (by decide +kernel))
set_option maxRecDepth 20000 in
theorem gL_lose_X0_lose : GoodIn wsL_lose (wsV RL 53 RX0 yX0_lose wsX0_lose) := goodIn_app (goodIn_of _ (by decide +kernel)) ggL_lose_X0_lose
set_option maxRecDepth 20000 in
theorem ggL_look_X0_look : GoodIn wsL_look wsX0_look := goodIn_ca (goodIn_r _ [6, 7, 8, 9, 10, 11, 12, 13, 14, 15, 16, 17, 18, 19, 20, 21, 22, 23, 24, 25] (by decide +kernel) (by decide +kernel)) (goodIn_sub (fun _ h => List.mem_cons_of_mem _ (List.mem_append_right _ h)) (by decide +kernel))
set_option maxRecDepth 20000 in
theorem gL_look_X0_look : GoodIn wsL_look (wsV RL 57 RX0 yX0_look wsX0_look) := goodIn_app (goodIn_of _ (by decide +kernel)) ggL_look_X0_look
set_option maxRecDepth 20000 in
theorem ggL_law_X0_init : GoodIn wsL_law wsX0_init := goodIn_r _ [10, 11, 12, 13, 6, 14, 15, 16, 17, 18, 19, 20, 21, 22, 23, 24, 25, 26, 27, 28, 29, 30, 341, 342, 343, 344, 345, 346, 347, 348, 349, 350, 351, 352] (by decide +kernel) (by decide +kernel)
set_option maxRecDepth 20000 in
theorem gL_law_X0_init : GoodIn wsL_law (wsX0_init) := ggL_law_X0_init
set_option maxRecDepth 20000 in
theorem ggL_law_X1_init : GoodIn wsL_law wsX1_init := goodIn_r _ [33, 34, 12, 13, 16, 35, 36, 37, 38, 39, 40, 41, 42, 43, 44, 45, 46, 353, 354, 355, 356, 357, 358, 359, 360, 361, 362, 363, 364, 365] (by decide +kernel) (by decide +kernel)
set_option maxRecDepth 20000 in
theorem gL_law_X1_init : GoodIn wsL_law (wsX1_init) := ggL_law_X1_init
set_option maxRecDepth 20000 in
theorem ggL_law_L_feed : GoodIn wsL_law wsL_feed := goodIn_ca (goodIn_ca (goodIn_r _ [50, 51, 52, 53, 54, 55, 2, 56, 57, 58, 59, 60, 21, 20, 61, 62, 63, 64, 65, 66, 67, 341, 342, 343, 344, 345, 346, 347, 348, 349, 350, 351, 352] (by decide +kernel) (by decide +kernel)) (goodIn_sub (fun _ h => List.mem_append_left _ (List.mem_append_left _ (List.mem_append_right _ h))) (by decide +kernel))) (goodIn_sub (fun _ h => List.mem_append_left _ (List.mem_append_right _ h)) (by decide +kernel))
set_option maxRecDepth 20000 in
theorem gL_law_L_feed : GoodIn wsL_law (va_wsS RL 66 yL_feed wsL_feed) := goodIn_app (goodIn_of _ (by decide +kernel)) ggL_law_L_feed
set_option maxRecDepth 20000 in
theorem ggL_law_X1_feed : GoodIn wsL_law wsX1_feed := goodIn_r _ [71, 72, 35, 73, 74, 75, 5, 76, 77, 78, 79, 80, 81, 353, 354, 355, 356, 357, 358, 359, 360, 361, 362, 363, 364, 365] (by decide +kernel) (by decide +kernel)
set_option maxRecDepth 20000 in
theorem gL_law_X1_feed : GoodIn wsL_law (wsV RL 71 RX1 yX1_feed wsX1_feed) := goodIn_app (goodIn_of _ (by decide +kernel)) ggL_law_X1_feed
set_option maxRecDepth 20000 in
theorem ggL_law_X1_thrown : GoodIn wsL_law wsX1_thrown := goodIn_r _ [85, 81, 353, 354, 355, 356, 357, 358, 359, 360, 361, 362, 363, 364, 365] (by decide +kernel) (by decide +kernel)
set_option maxRecDepth 20000 in
theorem gL_law_X1_thrown : GoodIn wsL_law (wsV RL 72 RX1 yX1_thrown wsX1_thrown) := goodIn_app (goodIn_of _ (by decide +kernel)) ggL_law_X1_thrown
set_option maxRecDepth 20000 in
theorem ggL_law_L_write : GoodIn wsL_law wsL_write := goodIn_ca (goodIn_ca (goodIn_r _ [88, 51, 52, 89, 90, 91, 2, 92, 57, 58, 59, 60, 93, 26, 94, 95, 96, 97, 98, 99, 100, 101, 102, 103, 17, 104, 105, 106, 107, 108, 109, 110, 25, 24, 111, 112, 113, 114, 20, 14, 115, 116, 117, 118, 15, 119, 120, 121, 122, 123, 124, 125, 126, 127, 128, 129, 130, 131, 18, 132, 133, 134, 135, 21, 136, 137, 29, 138, 341, 342, 343, 344, 345, 346, 347, 348, 349, 350, 351, 352] (by decide +kernel) (by decide +kernel)) (goodIn_sub (fun _ h => List.mem_append_left _ (List.mem_append_left _ (List.mem_append_right _ h))) (by decide +kernel))) (goodIn_sub (fun _ h => List.mem_append_left _ (List.mem_append_right _ h)) (by decide +kernel))
set_option maxRecDepth 20000 in
theorem gL_law_L_write : GoodIn wsL_law (va_wsS RL 76 yL_write wsL_write) := goodIn_app (goodIn_of _ (by decide +kernel)) ggL_law_L_write
set_option maxRecDepth 20000 in
theorem ggL_law_X1_write : GoodIn wsL_law wsX1_write := goodIn_r _ [142, 143, 38, 72, 144, 45, 145, 39, 43, 42, 35, 146, 147, 5, 148, 74, 75, 76, 77, 78, 79, 80, 81, 149, 150, 151, 152, 153, 154, 155, 46, 156, 157, 158, 159, 160, 161, 162, 163, 164, 353, 354, 355, 356, 357, 358, 359, 360, 361, 362, 363, 364, 365] (by decide +kernel) (by decide +kernel)
set_option maxRecDepth 20000 in
theorem gL_law_X1_write : GoodIn wsL_law (wsV RL 79 RX1 yX1_write wsX1_write) := goodIn_app (goodIn_of _ (by decide +kernel)) ggL_law_X1_write
set_option maxRecDepth 20000 in
theorem ggL_law_L_read : GoodIn wsL_law wsL_read := goodIn_ca (goodIn_r _ [167, 51, 168, 169, 170, 2, 171, 17, 14, 22, 115, 116, 117, 118, 23, 172, 173, 174, 57, 58, 94, 95, 96, 97, 98, 99, 104, 105, 106, 341, 342, 343, 344, 345, 346, 347, 348, 349, 350, 351, 352] (by decide +kernel) (by decide +kernel)) (goodIn_sub (fun _ h => List.mem_append_left _ (List.mem_append_left _ (List.mem_append_right _ h))) (by decide +kernel))
set_option maxRecDepth 20000 in
theorem gL_law_L_read : GoodIn wsL_law (va_wsS RL 80 yL_read wsL_read) := goodIn_app (goodIn_of _ (by decide +kernel)) ggL_law_L_read
set_option maxRecDepth 20000 in
theorem ggL_law_X1_read : GoodIn wsL_law wsX1_read := goodIn_r _ [178, 179, 36, 146, 147, 5, 148, 74, 75, 76, 77, 78, 79, 80, 81, 180, 181, 182, 183, 38, 39, 149, 150, 151, 184, 185, 186, 187, 43, 188, 189, 190, 191, 42, 353, 354, 355, 356, 357, 358, 359, 360, 361, 362, 363, 364, 365] (by decide +kernel) (by decide +kernel)
set_option maxRecDepth 20000 in
theorem gL_law_X1_read : GoodIn wsL_law (wsV RL 83 RX1 yX1_read wsX1_read) := goodIn_app (goodIn_of _ (by decide +kernel)) ggL_law_X1_read
set_option maxRecDepth 20000 in
theorem ggL_law_L_outs : GoodIn wsL_law wsL_outs := goodIn_ca (goodIn_r _ [194, 195, 196, 197, 198, 2, 199, 200, 201, 23, 202, 203, 204, 205, 22, 125, 126, 127, 341, 342, 343, 344, 345, 346, 347, 348, 349, 350, 351, 352] (by decide +kernel) (by decide +kernel)) (goodIn_sub (fun _ h => List.mem_append_right _ h) (by decide +kernel))
set_option maxRecDepth 20000 in
theorem gL_law_L_outs : GoodIn wsL_law (va_wsS RL 84 yL_outs wsL_outs) := goodIn_app (goodIn_of _ (by decide +kernel)) ggL_law_L_outs
set_option maxRecDepth 20000 in
theorem ggL_law_X1_outs : GoodIn wsL_law wsX1_outs := goodIn_r _ [209, 179, 36, 77, 78, 79, 5, 80, 81, 353, 354, 355, 356, 357, 358, 359, 360, 361, 362, 363, 364, 365] (by decide +kernel) (by decide +kernel)
set_option maxRecDepth 20000 in
theorem gL_law_X1_outs : GoodIn wsL_law (wsV RL 87 RX1 yX1_outs wsX1_outs) := goodIn_app (goodIn_of _ (by decide +kernel)) ggL_law_X1_outs
set_option maxRecDepth 20000 in
theorem ggL_law_L_tag : GoodIn wsL_law wsL_tag := goodIn_ca (goodIn_r _ [212, 51, 213, 214, 215, 2, 216, 17, 14, 217, 172, 173, 174, 57, 58, 94, 95, 96, 97, 98, 99, 104, 105, 106, 341, 342, 343, 344, 345, 346, 347, 348, 349, 350, 351, 352] (by decide +kernel) (by decide +kernel)) (goodIn_sub (fun _ h => List.mem_append_left _ (List.mem_append_left _ (List.mem_append_right _ h))) (by decide +kernel))
set_option maxRecDepth 20000 in
theorem gL_law_L_tag : GoodIn wsL_law (va_wsS RL 88 yL_tag wsL_tag) := goodIn_app (goodIn_of _ (by decide +kernel)) ggL_law_L_tag
set_option maxRecDepth 20000 in
theorem ggL_law_X1_tag : GoodIn wsL_law wsX1_tag := goodIn_r _ [221, 146, 147, 5, 148, 74, 75, 76, 77, 78, 79, 80, 81, 149, 150, 151, 180, 181, 182, 183, 38, 39, 184, 185, 186, 187, 43, 188, 189, 190, 191, 42, 353, 354, 355, 356, 357, 358, 359, 360, 361, 362, 363, 364, 365] (by decide +kernel) (by decide +kernel)
set_option maxRecDepth 20000 in
theorem gL_law_X1_tag : GoodIn wsL_law (wsV RL 90 RX1 yX1_tag wsX1_tag) := goodIn_app (goodIn_of _ (by decide +kernel)) ggL_law_X1_tag
set_option maxRecDepth 20000 in
theorem ggL_law_L_cell : GoodIn wsL_law wsL_cell := goodIn_ca (goodIn_r _ [224, 51, 225, 226, 227, 2, 228, 17, 172, 173, 174, 57, 58, 94, 95, 96, 97, 98, 99, 104, 105, 106, 341, 342, 343, 344, 345, 346, 347, 348, 349, 350, 351, 352] (by decide +kernel) (by decide +kernel)) (goodIn_sub (fun _ h => List.mem_append_left _ (List.mem_append_left _ (List.mem_append_right _ h))) (by decide +kernel))
set_option maxRecDepth 20000 in
theorem gL_law_L_cell : GoodIn wsL_law (va_wsS RL 91 yL_cell wsL_cell) := goodIn_app (goodIn_of _ (by decide +kernel)) ggL_law_L_cell
set_option maxRecDepth 20000 in
theorem ggL_law_X1_cell : GoodIn wsL_law wsX1_cell := goodIn_r _ [232, 146, 147, 5, 148, 74, 75, 76, 77, 78, 79, 80, 81, 180, 181, 182, 183, 38, 39, 149, 150, 151, 184, 185, 186, 187, 43, 353, 354, 355, 356, 357, 358, 359, 360, 361, 362, 363, 364, 365] (by decide +kernel) (by decide +kernel)
set_option maxRecDepth 20000 in
theorem gL_law_X1_cell : GoodIn wsL_law (wsV RL 93 RX1 yX1_cell wsX1_cell) := goodIn_app (goodIn_of _ (by decide +kernel)) ggL_law_X1_cell
set_option maxRecDepth 20000 in
theorem ggL_law_L_at : GoodIn wsL_law wsL_at := goodIn_ca (goodIn_ca (goodIn_r _ [235, 51, 195, 236, 237, 238, 2, 239, 200, 201, 14, 172, 173, 174, 57, 58, 94, 95, 96, 97, 98, 99, 104, 105, 106, 240, 241, 242, 243, 17, 125, 126, 127, 341, 342, 343, 344, 345, 346, 347, 348, 349, 350, 351, 352] (by decide +kernel) (by decide +kernel)) (goodIn_sub (fun _ h => List.mem_append_right _ h) (by decide +kernel))) (goodIn_sub (fun _ h => List.mem_append_left _ (List.mem_append_left _ (List.mem_append_right _ h))) (by decide +kernel))
set_option maxRecDepth 20000 in
theorem gL_law_L_at : GoodIn wsL_law (va_wsS RL 94 yL_at wsL_at) := goodIn_app (goodIn_of _ (by decide +kernel)) ggL_law_L_at
set_option maxRecDepth 20000 in
theorem ggL_law_X1_at : GoodIn wsL_law wsX1_at := goodIn_r _ [247, 146, 147, 5, 148, 74, 75, 76, 77, 78, 79, 80, 81, 180, 181, 182, 183, 38, 39, 149, 150, 151, 184, 185, 186, 187, 43, 188, 189, 190, 191, 42, 353, 354, 355, 356, 357, 358, 359, 360, 361, 362, 363, 364, 365] (by decide +kernel) (by decide +kernel)
set_option maxRecDepth 20000 in
theorem gL_law_X1_at : GoodIn wsL_law (wsV RL 96 RX1 yX1_at wsX1_at) := goodIn_app (goodIn_of _ (by decide +kernel)) ggL_law_X1_at
set_option maxRecDepth 20000 in
theorem ggL_law_L_fail : GoodIn wsL_law wsL_fail := goodIn_ca (goodIn_r _ [250, 51, 251, 252, 253, 2, 254, 19, 255, 256, 257, 57, 58, 97, 98, 99, 100, 101, 102, 103, 17, 104, 105, 106, 258, 259, 260, 261, 128, 129, 130, 131, 18, 341, 342, 343, 344, 345, 346, 347, 348, 349, 350, 351, 352] (by decide +kernel) (by decide +kernel)) (goodIn_sub (fun _ h => List.mem_append_left _ (List.mem_append_left _ (List.mem_append_right _ h))) (by decide +kernel))
set_option maxRecDepth 20000 in
theorem gL_law_L_fail : GoodIn wsL_law (va_wsS RL 97 yL_fail wsL_fail) := goodIn_app (goodIn_of _ (by decide +kernel)) ggL_law_L_fail
set_option maxRecDepth 20000 in
theorem ggL_law_X1_fail : GoodIn wsL_law wsX1_fail := goodIn_r _ [265, 38, 266, 267, 5, 268, 74, 75, 76, 77, 78, 79, 80, 81, 353, 354, 355, 356, 357, 358, 359, 360, 361, 362, 363, 364, 365] (by decide +kernel) (by decide +kernel)
set_option maxRecDepth 20000 in
theorem gL_law_X1_fail : GoodIn wsL_law (wsV RL 99 RX1 yX1_fail wsX1_fail) := goodIn_app (goodIn_of _ (by decide +kernel)) ggL_law_X1_fail
set_option maxRecDepth 20000 in
theorem ggL_law_L_replace : GoodIn wsL_law wsL_replace := goodIn_ca (goodIn_r _ [271, 51, 272, 273, 274, 2, 275, 19, 255, 256, 257, 57, 58, 97, 98, 99, 100, 101, 102, 103, 17, 104, 105, 106, 258, 259, 260, 261, 128, 129, 130, 131, 18, 341, 342, 343, 344, 345, 346, 347, 348, 349, 350, 351, 352] (by decide +kernel) (by decide +kernel)) (goodIn_sub (fun _ h => List.mem_append_left _ (List.mem_append_left _ (List.mem_append_right _ h))) (by decide +kernel))
set_option maxRecDepth 20000 in
theorem gL_law_L_replace : GoodIn wsL_law (va_wsS RL 100 yL_replace wsL_replace) := goodIn_app (goodIn_of _ (by decide +kernel)) ggL_law_L_replace
set_option maxRecDepth 20000 in
theorem ggL_law_X1_replace : GoodIn wsL_law wsX1_replace := goodIn_r _ [279, 38, 39, 266, 267, 5, 268, 74, 75, 76, 77, 78, 79, 80, 81, 149, 150, 151, 353, 354, 355, 356, 357, 358, 359, 360, 361, 362, 363, 364, 365] (by decide +kernel) (by decide +kernel)
set_option maxRecDepth 20000 in
theorem gL_law_X1_replace : GoodIn wsL_law (wsV RL 102 RX1 yX1_replace wsX1_replace) := goodIn_app (goodIn_of _ (by decide +kernel)) ggL_law_X1_replace
set_option maxRecDepth 20000 in
theorem ggL_law_L_corrupt : GoodIn wsL_law wsL_corrupt := goodIn_ca (goodIn_r _ [282, 51, 283, 284, 285, 2, 286, 57, 58, 14, 94, 95, 96, 97, 98, 99, 61, 62, 63, 104, 105, 106, 240, 241, 242, 243, 17, 64, 65, 66, 67, 287, 288, 289, 290, 15, 128, 129, 130, 131, 18, 291, 292, 293, 294, 119, 120, 121, 122, 123, 124, 125, 126, 127, 341, 342, 343, 344, 345, 346, 347, 348, 349, 350, 351, 352] (by decide +kernel) (by decide +kernel)) (goodIn_sub (fun _ h => List.mem_append_left _ (List.mem_append_left _ (List.mem_append_right _ h))) (by decide +kernel))
set_option maxRecDepth 20000 in
theorem gL_law_L_corrupt : GoodIn wsL_law (va_wsS RL 103 yL_corrupt wsL_corrupt) := goodIn_app (goodIn_of _ (by decide +kernel)) ggL_law_L_corrupt
set_option maxRecDepth 20000 in
theorem ggL_law_X1_corrupt : GoodIn wsL_law wsX1_corrupt := goodIn_r _ [298, 146, 147, 5, 148, 74, 75, 76, 77, 78, 79, 80, 81, 180, 181, 182, 183, 38, 39, 149, 150, 151, 184, 185, 186, 187, 43, 299, 300, 301, 302, 303, 304, 305, 306, 46, 156, 157, 158, 159, 160, 161, 162, 163, 164, 353, 354, 355, 356, 357, 358, 359, 360, 361, 362, 363, 364, 365] (by decide +kernel) (by decide +kernel)
set_option maxRecDepth 20000 in
theorem gL_law_X1_corrupt : GoodIn wsL_law (wsV RL 106 RX1 yX1_corrupt wsX1_corrupt) := goodIn_app (goodIn_of _ (by decide +kernel)) ggL_law_X1_corrupt
set_option maxRecDepth 20000 in
theorem ggL_law_L_lose : GoodIn wsL_law wsL_lose := goodIn_ca (goodIn_ca (goodIn_r _ [309, 51, 52, 310, 311, 312, 2, 313, 57, 58, 59, 60, 24, 25, 341, 342, 343, 344, 345, 346, 347, 348, 349, 350, 351, 352] (by decide +kernel) (by decide +kernel)) (goodIn_sub (fun _ h => List.mem_append_left _ (List.mem_append_left _ (List.mem_append_right _ h))) (by decide +kernel))) (goodIn_sub (fun _ h => List.mem_append_left _ (List.mem_append_right _ h)) (by decide +kernel))
set_option maxRecDepth 20000 in
theorem gL_law_L_lose : GoodIn wsL_law (va_wsS RL 107 yL_lose wsL_lose) := goodIn_app (goodIn_of _ (by decide +kernel)) ggL_law_L_lose
set_option maxRecDepth 20000 in
theorem ggL_law_X1_lose : GoodIn wsL_law wsX1_lose := goodIn_r _ [317, 144, 45, 77, 78, 79, 5, 80, 81, 353, 354, 355, 356, 357, 358, 359, 360, 361, 362, 363, 364, 365] (by decide +kernel) (by decide +kernel)
set_option maxRecDepth 20000 in
theorem gL_law_X1_lose : GoodIn wsL_law (wsV RL 110 RX1 yX1_lose wsX1_lose) := goodIn_app (goodIn_of _ (by decide +kernel)) ggL_law_X1_lose
set_option maxRecDepth 20000 in
theorem ggL_law_X0_power : GoodIn wsL_law wsX0_power := goodIn_r _ [321, 24, 25, 341, 342, 343, 344, 345, 346, 347, 348, 349, 350, 351, 352] (by decide +kernel) (by decide +kernel)
set_option maxRecDepth 20000 in
theorem gL_law_X0_power : GoodIn wsL_law (wsV RL 111 RX0 yX0_power wsX0_power) := goodIn_app (goodIn_of _ (by decide +kernel)) ggL_law_X0_power
set_option maxRecDepth 20000 in
theorem ggL_law_X1_power : GoodIn wsL_law wsX1_power := goodIn_r _ [325, 81, 144, 44, 45, 353, 354, 355, 356, 357, 358, 359, 360, 361, 362, 363, 364, 365] (by decide +kernel) (by decide +kernel)
set_option maxRecDepth 20000 in
theorem gL_law_X1_power : GoodIn wsL_law (wsV RL 115 RX1 yX1_power wsX1_power) := goodIn_app (goodIn_of _ (by decide +kernel)) ggL_law_X1_power
set_option maxRecDepth 20000 in
theorem ggL_law_L_look : GoodIn wsL_law wsL_look := goodIn_ca (goodIn_r _ [328, 195, 329, 330, 331, 2, 332, 200, 201, 26, 24, 25, 19, 18, 341, 342, 343, 344, 345, 346, 347, 348, 349, 350, 351, 352] (by decide +kernel) (by decide +kernel)) (goodIn_sub (fun _ h => List.mem_append_right _ h) (by decide +kernel))
set_option maxRecDepth 20000 in
theorem gL_law_L_look : GoodIn wsL_law (va_wsS RL 116 yL_look wsL_look) := goodIn_app (goodIn_of _ (by decide +kernel)) ggL_law_L_look
set_option maxRecDepth 20000 in
theorem ggL_law_X1_look : GoodIn wsL_law wsX1_look := goodIn_r _ [336, 145, 144, 45, 38, 74, 75, 5, 76, 77, 78, 79, 80, 81, 337, 338, 339, 340, 180, 181, 182, 183, 39, 149, 150, 151, 184, 185, 186, 187, 43, 353, 354, 355, 356, 357, 358, 359, 360, 361, 362, 363, 364, 365] (by decide +kernel) (by decide +kernel)
set_option maxRecDepth 20000 in
theorem gL_law_X1_look : GoodIn wsL_law (wsV RL 118 RX1 yX1_look wsX1_look) := goodIn_app (goodIn_of _ (by decide +kernel)) ggL_law_X1_look
