def RJ0 : String := "java/lang/String"
def gLJ0 : List (Nat × Nat × Nat × Nat) := []
def pLJ0 : List (Nat × Nat × Nat × Nat) := []
def kLJ0 : List (Nat × Nat × Value) := []
set_option maxRecDepth 20000 in
theorem gLJ0_ok : mm_gfb RJ0 gLJ0 = true := by decide +kernel
set_option maxRecDepth 20000 in
theorem pLJ0_ok : mm_pfb RJ0 pLJ0 = true := by decide +kernel
set_option maxRecDepth 20000 in
theorem kLJ0_ok : mm_kcb RJ0 kLJ0 = true := by decide +kernel
def RJ1 : String := "java/lang/StringLatin1"
def gLJ1 : List (Nat × Nat × Nat × Nat) := []
def pLJ1 : List (Nat × Nat × Nat × Nat) := []
def kLJ1 : List (Nat × Nat × Value) := []
set_option maxRecDepth 20000 in
theorem gLJ1_ok : mm_gfb RJ1 gLJ1 = true := by decide +kernel
set_option maxRecDepth 20000 in
theorem pLJ1_ok : mm_pfb RJ1 pLJ1 = true := by decide +kernel
set_option maxRecDepth 20000 in
theorem kLJ1_ok : mm_kcb RJ1 kLJ1 = true := by decide +kernel
def RJ3 : String := "jdk/internal/util/Preconditions"
def gLJ3 : List (Nat × Nat × Nat × Nat) := []
def pLJ3 : List (Nat × Nat × Nat × Nat) := []
def kLJ3 : List (Nat × Nat × Value) := []
set_option maxRecDepth 20000 in
theorem gLJ3_ok : mm_gfb RJ3 gLJ3 = true := by decide +kernel
set_option maxRecDepth 20000 in
theorem pLJ3_ok : mm_pfb RJ3 pLJ3 = true := by decide +kernel
set_option maxRecDepth 20000 in
theorem kLJ3_ok : mm_kcb RJ3 kLJ3 = true := by decide +kernel
def RJ6 : String := "java/lang/Integer"
def gLJ6 : List (Nat × Nat × Nat × Nat) := []
def pLJ6 : List (Nat × Nat × Nat × Nat) := []
def kLJ6 : List (Nat × Nat × Value) := [(747, 796, .int 1431655765), (748, 799, .int 858993459), (749, 802, .int 252645135)]
set_option maxRecDepth 20000 in
theorem gLJ6_ok : mm_gfb RJ6 gLJ6 = true := by decide +kernel
set_option maxRecDepth 20000 in
theorem pLJ6_ok : mm_pfb RJ6 pLJ6 = true := by decide +kernel
set_option maxRecDepth 20000 in
theorem kLJ6_ok : mm_kcb RJ6 kLJ6 = true := by decide +kernel
def RJ7 : String := "java/util/Arrays"
def gLJ7 : List (Nat × Nat × Nat × Nat) := []
def pLJ7 : List (Nat × Nat × Nat × Nat) := []
def kLJ7 : List (Nat × Nat × Value) := []
set_option maxRecDepth 20000 in
theorem gLJ7_ok : mm_gfb RJ7 gLJ7 = true := by decide +kernel
set_option maxRecDepth 20000 in
theorem pLJ7_ok : mm_pfb RJ7 pLJ7 = true := by decide +kernel
set_option maxRecDepth 20000 in
theorem kLJ7_ok : mm_kcb RJ7 kLJ7 = true := by decide +kernel
def RJ9 : String := "java/lang/Math"
def gLJ9 : List (Nat × Nat × Nat × Nat) := []
def pLJ9 : List (Nat × Nat × Nat × Nat) := []
def kLJ9 : List (Nat × Nat × Value) := []
set_option maxRecDepth 20000 in
theorem gLJ9_ok : mm_gfb RJ9 gLJ9 = true := by decide +kernel
set_option maxRecDepth 20000 in
theorem pLJ9_ok : mm_pfb RJ9 pLJ9 = true := by decide +kernel
set_option maxRecDepth 20000 in
theorem kLJ9_ok : mm_kcb RJ9 kLJ9 = true := by decide +kernel
def gLX0 : List (Nat × Nat × Nat × Nat) := [(292, 12, 0, 0), (300, 18, 0, 1), (302, 24, 0, 2), (157, 32, 8, 1), (164, 36, 8, 2), (269, 39, 5, 5), (274, 46, 5, 6), (187, 49, 8, 5), (252, 53, 5, 0), (258, 60, 5, 2), (255, 63, 5, 1), (204, 69, 8, 7), (177, 78, 8, 3), (196, 85, 8, 6), (212, 88, 8, 8), (217, 91, 8, 9)]
def pLX0 : List (Nat × Nat × Nat × Nat) := [(292, 12, 0, 0), (300, 18, 0, 1), (274, 46, 5, 6)]
def kLX0 : List (Nat × Nat × Value) := []
set_option maxRecDepth 20000 in
theorem gLX0_ok : mm_gfb RX0 gLX0 = true := by decide +kernel
set_option maxRecDepth 20000 in
theorem pLX0_ok : mm_pfb RX0 pLX0 = true := by decide +kernel
set_option maxRecDepth 20000 in
theorem kLX0_ok : mm_kcb RX0 kLX0 = true := by decide +kernel
def gLX1 : List (Nat × Nat × Nat × Nat) := [(378, 18, 1, 0), (296, 34, 0, 0), (381, 15, 1, 2), (163, 46, 8, 2), (199, 52, 8, 7), (207, 55, 8, 8), (191, 58, 8, 6), (173, 70, 8, 3), (379, 9, 1, 1)]
def pLX1 : List (Nat × Nat × Nat × Nat) := []
def kLX1 : List (Nat × Nat × Value) := []
set_option maxRecDepth 20000 in
theorem gLX1_ok : mm_gfb RX1 gLX1 = true := by decide +kernel
set_option maxRecDepth 20000 in
theorem pLX1_ok : mm_pfb RX1 pLX1 = true := by decide +kernel
set_option maxRecDepth 20000 in
theorem kLX1_ok : mm_kcb RX1 kLX1 = true := by decide +kernel
def gLX2 : List (Nat × Nat × Nat × Nat) := [(321, 9, 2, 0), (303, 47, 0, 2), (263, 60, 5, 4), (295, 15, 0, 0), (180, 63, 8, 4), (251, 66, 5, 0), (170, 21, 8, 3), (260, 111, 5, 3), (167, 101, 8, 2), (190, 41, 8, 6), (275, 108, 5, 6), (198, 38, 8, 7), (208, 69, 8, 8), (215, 72, 8, 9), (254, 51, 5, 1), (270, 114, 5, 5), (257, 120, 5, 2)]
def pLX2 : List (Nat × Nat × Nat × Nat) := [(270, 114, 5, 5)]
def kLX2 : List (Nat × Nat × Value) := []
set_option maxRecDepth 20000 in
theorem gLX2_ok : mm_gfb RX2 gLX2 = true := by decide +kernel
set_option maxRecDepth 20000 in
theorem pLX2_ok : mm_pfb RX2 pLX2 = true := by decide +kernel
set_option maxRecDepth 20000 in
theorem kLX2_ok : mm_kcb RX2 kLX2 = true := by decide +kernel
def gLX3 : List (Nat × Nat × Nat × Nat) := [(331, 9, 3, 0), (293, 15, 0, 0), (206, 55, 8, 8), (214, 58, 8, 9), (189, 38, 8, 6), (171, 27, 8, 3), (200, 64, 8, 7), (156, 21, 8, 1), (162, 35, 8, 2), (304, 67, 0, 2), (264, 71, 5, 4), (181, 76, 8, 4), (273, 79, 5, 6), (332, 82, 3, 1)]
def pLX3 : List (Nat × Nat × Nat × Nat) := [(332, 82, 3, 1)]
def kLX3 : List (Nat × Nat × Value) := []
set_option maxRecDepth 20000 in
theorem gLX3_ok : mm_gfb RX3 gLX3 = true := by decide +kernel
set_option maxRecDepth 20000 in
theorem pLX3_ok : mm_pfb RX3 pLX3 = true := by decide +kernel
set_option maxRecDepth 20000 in
theorem kLX3_ok : mm_kcb RX3 kLX3 = true := by decide +kernel
def gLX4 : List (Nat × Nat × Nat × Nat) := [(412, 21, 4, 1), (411, 7, 4, 0), (298, 38, 0, 0), (201, 42, 8, 7), (305, 56, 0, 2), (265, 60, 5, 4), (192, 65, 8, 6)]
def pLX4 : List (Nat × Nat × Nat × Nat) := [(412, 21, 4, 1)]
def kLX4 : List (Nat × Nat × Value) := []
set_option maxRecDepth 20000 in
theorem gLX4_ok : mm_gfb RX4 gLX4 = true := by decide +kernel
set_option maxRecDepth 20000 in
theorem pLX4_ok : mm_pfb RX4 pLX4 = true := by decide +kernel
set_option maxRecDepth 20000 in
theorem kLX4_ok : mm_kcb RX4 kLX4 = true := by decide +kernel
def gLX5 : List (Nat × Nat × Nat × Nat) := [(250, 9, 5, 0), (253, 15, 5, 1), (259, 21, 5, 3), (219, 33, 8, 10), (256, 18, 5, 2), (262, 24, 5, 4), (268, 44, 5, 5), (272, 48, 5, 6)]
def pLX5 : List (Nat × Nat × Nat × Nat) := [(268, 44, 5, 5), (272, 48, 5, 6)]
def kLX5 : List (Nat × Nat × Value) := []
set_option maxRecDepth 20000 in
theorem gLX5_ok : mm_gfb RX5 gLX5 = true := by decide +kernel
set_option maxRecDepth 20000 in
theorem pLX5_ok : mm_pfb RX5 pLX5 = true := by decide +kernel
set_option maxRecDepth 20000 in
theorem kLX5_ok : mm_kcb RX5 kLX5 = true := by decide +kernel
def gLX6 : List (Nat × Nat × Nat × Nat) := [(395, 18, 6, 0), (294, 22, 0, 0), (155, 28, 8, 1), (179, 34, 8, 4), (172, 41, 8, 3), (396, 9, 6, 1), (397, 15, 6, 2)]
def pLX6 : List (Nat × Nat × Nat × Nat) := []
def kLX6 : List (Nat × Nat × Value) := []
set_option maxRecDepth 20000 in
theorem gLX6_ok : mm_gfb RX6 gLX6 = true := by decide +kernel
set_option maxRecDepth 20000 in
theorem pLX6_ok : mm_pfb RX6 pLX6 = true := by decide +kernel
set_option maxRecDepth 20000 in
theorem kLX6_ok : mm_kcb RX6 kLX6 = true := by decide +kernel
def gLX7 : List (Nat × Nat × Nat × Nat) := [(123, 15, 7, 3), (122, 28, 7, 2), (120, 9, 7, 0), (104, 106, 10, 0), (107, 101, 10, 1), (125, 57, 7, 5), (124, 34, 7, 4), (121, 19, 7, 1), (158, 50, 8, 1), (165, 68, 8, 2), (174, 71, 8, 3), (186, 79, 8, 5), (211, 92, 8, 8), (195, 95, 8, 6), (152, 47, 8, 0)]
def pLX7 : List (Nat × Nat × Nat × Nat) := [(122, 28, 7, 2), (124, 34, 7, 4), (125, 57, 7, 5), (123, 15, 7, 3), (121, 19, 7, 1), (152, 47, 8, 0)]
def kLX7 : List (Nat × Nat × Value) := [(491, 378, .ref 1000), (544, 396, .ref 1001), (545, 402, .ref 1002), (546, 408, .ref 1003), (547, 414, .ref 1004), (548, 420, .ref 1005)]
set_option maxRecDepth 20000 in
theorem gLX7_ok : mm_gfb RX7 gLX7 = true := by decide +kernel
set_option maxRecDepth 20000 in
theorem pLX7_ok : mm_pfb RX7 pLX7 = true := by decide +kernel
set_option maxRecDepth 20000 in
theorem kLX7_ok : mm_kcb RX7 kLX7 = true := by decide +kernel
def gLX8 : List (Nat × Nat × Nat × Nat) := [(154, 40, 8, 1), (169, 9, 8, 3), (178, 15, 8, 4), (184, 18, 8, 5), (161, 43, 8, 2), (188, 21, 8, 6), (197, 24, 8, 7), (205, 27, 8, 8), (213, 30, 8, 9), (218, 33, 8, 10)]
def pLX8 : List (Nat × Nat × Nat × Nat) := [(151, 36, 8, 0), (154, 40, 8, 1), (161, 43, 8, 2)]
def kLX8 : List (Nat × Nat × Value) := []
set_option maxRecDepth 20000 in
theorem gLX8_ok : mm_gfb RX8 gLX8 = true := by decide +kernel
set_option maxRecDepth 20000 in
theorem pLX8_ok : mm_pfb RX8 pLX8 = true := by decide +kernel
set_option maxRecDepth 20000 in
theorem kLX8_ok : mm_kcb RX8 kLX8 = true := by decide +kernel
def gLX9 : List (Nat × Nat × Nat × Nat) := [(346, 11, 9, 1), (345, 24, 9, 0), (299, 67, 0, 0), (347, 15, 9, 2), (348, 18, 9, 3), (159, 77, 8, 1), (176, 82, 8, 3), (166, 85, 8, 2), (209, 88, 8, 8), (202, 94, 8, 7), (193, 109, 8, 6), (306, 112, 0, 2), (266, 116, 5, 4), (349, 21, 9, 4), (183, 127, 8, 4), (350, 35, 9, 5)]
def pLX9 : List (Nat × Nat × Nat × Nat) := [(351, 28, 9, 6), (353, 32, 9, 7), (350, 35, 9, 5)]
def kLX9 : List (Nat × Nat × Value) := []
set_option maxRecDepth 20000 in
theorem gLX9_ok : mm_gfb RX9 gLX9 = true := by decide +kernel
set_option maxRecDepth 20000 in
theorem pLX9_ok : mm_pfb RX9 pLX9 = true := by decide +kernel
set_option maxRecDepth 20000 in
theorem kLX9_ok : mm_kcb RX9 kLX9 = true := by decide +kernel
def gLX10 : List (Nat × Nat × Nat × Nat) := [(105, 15, 10, 1), (103, 9, 10, 0)]
def pLX10 : List (Nat × Nat × Nat × Nat) := [(105, 15, 10, 1)]
def kLX10 : List (Nat × Nat × Value) := []
set_option maxRecDepth 20000 in
theorem gLX10_ok : mm_gfb RX10 gLX10 = true := by decide +kernel
set_option maxRecDepth 20000 in
theorem pLX10_ok : mm_pfb RX10 pLX10 = true := by decide +kernel
set_option maxRecDepth 20000 in
theorem kLX10_ok : mm_kcb RX10 kLX10 = true := by decide +kernel
def gLX11 : List (Nat × Nat × Nat × Nat) := [(422, 10, 11, 0), (106, 83, 10, 1), (423, 21, 11, 1), (424, 28, 11, 2), (301, 91, 0, 1), (297, 109, 0, 0), (153, 112, 8, 0), (175, 121, 8, 3), (182, 125, 8, 4), (185, 128, 8, 5), (194, 138, 8, 6), (203, 141, 8, 7), (210, 144, 8, 8), (216, 147, 8, 9), (307, 163, 0, 2), (267, 167, 5, 4), (428, 58, 11, 6), (380, 170, 1, 1), (276, 180, 5, 6), (425, 37, 11, 3), (261, 202, 5, 3), (426, 44, 11, 4), (333, 220, 3, 1), (427, 51, 11, 5), (352, 232, 9, 6), (354, 235, 9, 7), (429, 65, 11, 7), (430, 72, 11, 8), (431, 78, 11, 9), (432, 106, 11, 10), (160, 270, 8, 1), (168, 273, 8, 2), (271, 276, 5, 5), (413, 287, 4, 1)]
def pLX11 : List (Nat × Nat × Nat × Nat) := [(106, 83, 10, 1), (432, 106, 11, 10)]
def kLX11 : List (Nat × Nat × Value) := [(878, 714, .int (-1000000))]
set_option maxRecDepth 20000 in
theorem gLX11_ok : mm_gfb RX11 gLX11 = true := by decide +kernel
set_option maxRecDepth 20000 in
theorem pLX11_ok : mm_pfb RX11 pLX11 = true := by decide +kernel
set_option maxRecDepth 20000 in
theorem kLX11_ok : mm_kcb RX11 kLX11 = true := by decide +kernel
def gLX12 : List (Nat × Nat × Nat × Nat) := [(1016, 49, 12, 6), (1017, 52, 12, 7), (1025, 55, 12, 15), (1024, 35, 12, 14), (1026, 70, 12, 16), (1028, 77, 12, 18), (1029, 87, 12, 19), (1030, 90, 12, 20), (1027, 80, 12, 17), (1022, 104, 12, 12), (1020, 29, 12, 10), (1023, 111, 12, 13), (1021, 32, 12, 11), (1014, 16, 12, 4), (1012, 7, 12, 2), (1018, 23, 12, 8), (1019, 26, 12, 9), (1015, 20, 12, 5), (1031, 38, 12, 21), (1033, 190, 12, 23), (1032, 193, 12, 22), (1011, 213, 12, 1), (1013, 13, 12, 3)]
def pLX12 : List (Nat × Nat × Nat × Nat) := [(1010, 41, 12, 0), (1025, 55, 12, 15), (1026, 70, 12, 16), (1028, 77, 12, 18), (1027, 80, 12, 17), (1029, 87, 12, 19), (1030, 90, 12, 20), (1022, 104, 12, 12), (1023, 111, 12, 13), (1016, 49, 12, 6), (1017, 52, 12, 7), (1033, 190, 12, 23), (1032, 193, 12, 22), (1011, 213, 12, 1)]
def kLX12 : List (Nat × Nat × Value) := [(1091, 176, .long 255), (1111, 182, .long 256), (1291, 618, .int (-1000000)), (1316, 653, .long 11), (1317, 659, .long 101), (1318, 665, .long 1001), (1319, 671, .long 11001), (1320, 677, .long 100001), (1321, 683, .long 1100001)]
set_option maxRecDepth 20000 in
theorem gLX12_ok : mm_gfb RX12 gLX12 = true := by decide +kernel
set_option maxRecDepth 20000 in
theorem pLX12_ok : mm_pfb RX12 pLX12 = true := by decide +kernel
set_option maxRecDepth 20000 in
theorem kLX12_ok : mm_kcb RX12 kLX12 = true := by decide +kernel
def gsJ0 (n : Nat) : Option Value := bif Nat.beq n 38 then some (.int 1) else none
set_option maxRecDepth 20000 in
theorem gsJ0_ok : mm_GS RJ0 gsJ0 := by
  intro n v h
  unfold gsJ0 at h
  by_cases h38 : n = 38
  · subst h38; have h : some (.int 1 : Value) = some v := h; cases h; exact Or.inr (Or.inr ⟨mm_G_in (i := 504) (by decide +kernel) rfl, rfl⟩)
  rw [mm_beqF h38] at h
  simp only [cond_false] at h
  cases h
def gsX4 (n : Nat) : Option Value := bif Nat.beq n 25 then some (.ref 2001) else bif Nat.beq n 29 then some (.ref 2000) else none
set_option maxRecDepth 20000 in
theorem gsX4_ok : mm_GS RX4 gsX4 := by
  intro n v h
  unfold gsX4 at h
  by_cases h25 : n = 25
  · subst h25; have h : some (.ref 2001 : Value) = some v := h; cases h; exact Or.inr (Or.inl ⟨mm_G_in (i := 965) (by decide +kernel) rfl, rfl⟩)
  rw [mm_beqF h25] at h
  simp only [cond_false] at h
  by_cases h29 : n = 29
  · subst h29; have h : some (.ref 2000 : Value) = some v := h; cases h; exact Or.inl ⟨mm_G_in (i := 967) (by decide +kernel) rfl, rfl⟩
  rw [mm_beqF h29] at h
  simp only [cond_false] at h
  cases h
def rfJ0 (a n : Nat) : Option Value := bif Nat.ble 1000 a && Nat.ble (a + 1) 1006 then (bif Nat.beq n 9 then some (.ref (a + 100)) else bif Nat.beq n 15 then some (.int 0) else none) else none
set_option maxRecDepth 20000 in
theorem rfJ0_ok : mm_RF RJ0 rfJ0 := by
  intro n a v h
  unfold rfJ0 at h
  cases hc : (Nat.ble 1000 a && Nat.ble (a + 1) 1006) with
  | false => rw [hc] at h; cases h
  | true =>
    rw [hc] at h
    rw [Bool.and_eq_true] at hc
    refine ⟨⟨Nat.le_of_ble_eq_true hc.1, Nat.le_of_ble_eq_true hc.2⟩, ?_⟩
    by_cases h1 : n = 9
    · subst h1
      have h : some (Value.ref (a + 100)) = some v := h
      cases h
      exact Or.inl ⟨mm_G_in (i := 1343) (by decide +kernel) rfl, rfl⟩
    · by_cases h2 : n = 15
      · subst h2
        have h : some (Value.int 0) = some v := h
        cases h
        exact Or.inr ⟨mm_G_in (i := 1344) (by decide +kernel) rfl, rfl⟩
      · rw [mm_beqF h1, mm_beqF h2] at h
        cases h
