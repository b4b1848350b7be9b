theorem mw_L_cell : MW yL_cell cL_cell 3 (some .int) 2 := ⟨bw_0, bw_98, ⟨by decide +kernel, by decide +kernel⟩, by decide +kernel⟩
theorem mw_L_some : MW yL_some cL_some 2 (some .int) 2 := ⟨bw_0, bw_103, ⟨by decide +kernel, by decide +kernel⟩, by decide +kernel⟩
theorem mw_L_does : MW yL_does cL_does 6 (some .int) 6 := ⟨bw_0, bw_375, ⟨by decide +kernel, by decide +kernel⟩, by decide +kernel⟩
theorem mw_L_all : MW yL_all cL_all 6 (some .long) 2 := ⟨bw_0, bw_106, ⟨by decide +kernel, by decide +kernel⟩, by decide +kernel⟩
theorem mw_L_both : MW yL_both cL_both 8 (some .int) 7 := ⟨bw_0, bw_366, ⟨by decide +kernel, by decide +kernel⟩, by decide +kernel⟩
theorem mw_L_children : MW yL_children cL_children 13 (some .boolean) 5 := ⟨bw_0, bw_782, ⟨by decide +kernel, by decide +kernel⟩, by decide +kernel⟩
theorem mw_L_badges : MW yL_badges cL_badges 14 (some .boolean) 5 := ⟨bw_0, bw_785, ⟨by decide +kernel, by decide +kernel⟩, by decide +kernel⟩
theorem mw_L_leaders : MW yL_leaders cL_leaders 10 (some .boolean) 5 := ⟨bw_0, bw_827, ⟨by decide +kernel, by decide +kernel⟩, by decide +kernel⟩
theorem mw_L_events : MW yL_events cL_events 12 (some .boolean) 5 := ⟨bw_0, bw_831, ⟨by decide +kernel, by decide +kernel⟩, by decide +kernel⟩
theorem mw_L_days : MW yL_days cL_days 11 (some .boolean) 5 := ⟨bw_0, bw_872, ⟨by decide +kernel, by decide +kernel⟩, by decide +kernel⟩
theorem mw_L_sound : MW yL_sound cL_sound 10 (some .boolean) 2 := ⟨bw_0, bw_875, ⟨by decide +kernel, by decide +kernel⟩, by decide +kernel⟩
theorem mw_L_refused : MW yL_refused cL_refused 5 (some .boolean) 2 := ⟨bw_0, bw_878, ⟨by decide +kernel, by decide +kernel⟩, by decide +kernel⟩
theorem kbp_7 : (Int8.ofInt (7)).toInt32 = (7 : Int32) := by decide
theorem kbp_9 : (Int8.ofInt (9)).toInt32 = (9 : Int32) := by decide
theorem kbp_11 : (Int8.ofInt (11)).toInt32 = (11 : Int32) := by decide
theorem kbp_13 : (Int8.ofInt (13)).toInt32 = (13 : Int32) := by decide
theorem kbp_14 : (Int8.ofInt (14)).toInt32 = (14 : Int32) := by decide
theorem kbp_15 : (Int8.ofInt (15)).toInt32 = (15 : Int32) := by decide
theorem kbp_18 : (Int8.ofInt (18)).toInt32 = (18 : Int32) := by decide
theorem kbp_19 : (Int8.ofInt (19)).toInt32 = (19 : Int32) := by decide
theorem kbp_21 : (Int8.ofInt (21)).toInt32 = (21 : Int32) := by decide
theorem kbp_22 : (Int8.ofInt (22)).toInt32 = (22 : Int32) := by decide
theorem kbp_30 : (Int8.ofInt (30)).toInt32 = (30 : Int32) := by decide
theorem kbp_31 : (Int8.ofInt (31)).toInt32 = (31 : Int32) := by decide
theorem kbp_40 : (Int8.ofInt (40)).toInt32 = (40 : Int32) := by decide
theorem kbp_64 : (Int8.ofInt (64)).toInt32 = (64 : Int32) := by decide
theorem kbp_77 : (Int8.ofInt (77)).toInt32 = (77 : Int32) := by decide
theorem ksp_256 : (Int16.ofInt (256)).toInt32 = (256 : Int32) := by decide
theorem ksp_1024 : (Int16.ofInt (1024)).toInt32 = (1024 : Int32) := by decide
