/-- the tables are the code -/
theorem xAt : ∀ (mi pc : Nat) (i : Instr × Nat), (xTB.getD mi [])[pc]? = some (some i) → decode (xCC mi) pc = .ok i
  | 0, pc, i, h => xt0_at pc i h
  | 1, pc, i, h => xt1_at pc i h
  | 2, pc, i, h => xt2_at pc i h
  | 3, pc, i, h => xt3_at pc i h
  | 4, pc, i, h => xt4_at pc i h
  | 5, pc, i, h => xt5_at pc i h
  | 6, pc, i, h => xt6_at pc i h
  | 7, pc, i, h => xt7_at pc i h
  | 8, pc, i, h => xt8_at pc i h
  | 9, pc, i, h => xt9_at pc i h
  | 10, pc, i, h => xt10_at pc i h
  | 11, pc, i, h => xt11_at pc i h
  | 12, pc, i, h => xt12_at pc i h
  | 13, pc, i, h => xt13_at pc i h
  | 14, pc, i, h => xt14_at pc i h
  | 15, pc, i, h => xt15_at pc i h
  | 16, pc, i, h => xt16_at pc i h
  | 17, pc, i, h => xt17_at pc i h
  | 18, pc, i, h => xt18_at pc i h
  | 19, pc, i, h => xt19_at pc i h
  | 20, pc, i, h => xt20_at pc i h
  | 21, pc, i, h => xt21_at pc i h
  | 22, pc, i, h => xt22_at pc i h
  | 23, pc, i, h => xt23_at pc i h
  | 24, pc, i, h => xt24_at pc i h
  | 25, pc, i, h => xt25_at pc i h
  | 26, pc, i, h => xt26_at pc i h
  | 27, pc, i, h => xt27_at pc i h
  | 28, pc, i, h => xt28_at pc i h
  | 29, pc, i, h => xt29_at pc i h
  | 30, pc, i, h => xt30_at pc i h
  | 31, pc, i, h => xt31_at pc i h
  | 32, pc, i, h => xt32_at pc i h
  | 33, pc, i, h => xt33_at pc i h
  | 34, pc, i, h => xt34_at pc i h
  | 35, pc, i, h => xt35_at pc i h
  | 36, pc, i, h => xt36_at pc i h
  | 37, pc, i, h => xt37_at pc i h
  | 38, pc, i, h => xt38_at pc i h
  | 39, pc, i, h => xt39_at pc i h
  | 40, pc, i, h => xt40_at pc i h
  | 41, pc, i, h => xt41_at pc i h
  | 42, pc, i, h => xt42_at pc i h
  | 43, pc, i, h => xt43_at pc i h
  | 44, pc, i, h => xt44_at pc i h
  | 45, pc, i, h => xt45_at pc i h
  | 46, pc, i, h => xt46_at pc i h
  | 47, pc, i, h => xt47_at pc i h
  | 48, pc, i, h => xt48_at pc i h
  | 49, pc, i, h => xt49_at pc i h
  | 50, pc, i, h => xt50_at pc i h
  | 51, pc, i, h => xt51_at pc i h
  | 52, pc, i, h => xt52_at pc i h
  | 53, pc, i, h => xt53_at pc i h
  | 54, pc, i, h => xt54_at pc i h
  | 55, pc, i, h => xt55_at pc i h
  | 56, pc, i, h => xt56_at pc i h
  | 57, pc, i, h => xt57_at pc i h
  | 58, pc, i, h => xt58_at pc i h
  | 59, pc, i, h => xt59_at pc i h
  | 60, pc, i, h => xt60_at pc i h
  | 61, pc, i, h => xt61_at pc i h
  | 62, pc, i, h => xt62_at pc i h
  | 63, pc, i, h => xt63_at pc i h
  | 64, pc, i, h => xt64_at pc i h
  | 65, pc, i, h => xt65_at pc i h
  | 66, pc, i, h => xt66_at pc i h
  | 67, pc, i, h => xt67_at pc i h
  | 68, pc, i, h => xt68_at pc i h
  | 69, pc, i, h => xt69_at pc i h
  | 70, pc, i, h => xt70_at pc i h
  | 71, pc, i, h => xt71_at pc i h
  | 72, pc, i, h => xt72_at pc i h
  | 73, pc, i, h => xt73_at pc i h
  | 74, pc, i, h => xt74_at pc i h
  | 75, pc, i, h => xt75_at pc i h
  | 76, pc, i, h => xt76_at pc i h
  | 77, pc, i, h => xt77_at pc i h
  | 78, pc, i, h => xt78_at pc i h
  | 79, pc, i, h => xt79_at pc i h
  | 80, pc, i, h => xt80_at pc i h
  | 81, pc, i, h => xt81_at pc i h
  | 82, pc, i, h => xt82_at pc i h
  | 83, pc, i, h => xt83_at pc i h
  | 84, pc, i, h => xt84_at pc i h
  | 85, pc, i, h => xt85_at pc i h
  | 86, pc, i, h => xt86_at pc i h
  | 87, pc, i, h => xt87_at pc i h
  | 88, pc, i, h => xt88_at pc i h
  | 89, pc, i, h => xt89_at pc i h
  | 90, pc, i, h => xt90_at pc i h
  | 91, pc, i, h => xt91_at pc i h
  | 92, pc, i, h => xt92_at pc i h
  | 93, pc, i, h => xt93_at pc i h
  | 94, pc, i, h => xt94_at pc i h
  | 95, pc, i, h => xt95_at pc i h
  | 96, pc, i, h => xt96_at pc i h
  | 97, pc, i, h => xt97_at pc i h
  | 98, pc, i, h => xt98_at pc i h
  | 99, pc, i, h => xt99_at pc i h
  | 100, pc, i, h => xt100_at pc i h
  | 101, pc, i, h => xt101_at pc i h
  | 102, pc, i, h => xt102_at pc i h
  | 103, pc, i, h => xt103_at pc i h
  | 104, pc, i, h => xt104_at pc i h
  | 105, pc, i, h => xt105_at pc i h
  | 106, pc, i, h => xt106_at pc i h
  | 107, pc, i, h => xt107_at pc i h
  | 108, pc, i, h => xt108_at pc i h
  | 109, pc, i, h => xt109_at pc i h
  | 110, pc, i, h => xt110_at pc i h
  | 111, pc, i, h => xt111_at pc i h
  | 112, pc, i, h => xt112_at pc i h
  | 113, pc, i, h => xt113_at pc i h
  | 114, pc, i, h => xt114_at pc i h
  | 115, pc, i, h => xt115_at pc i h
  | 116, pc, i, h => xt116_at pc i h
  | 117, pc, i, h => xt117_at pc i h
  | 118, pc, i, h => xt118_at pc i h
  | 119, pc, i, h => xt119_at pc i h
  | 120, pc, i, h => xt120_at pc i h
  | 121, pc, i, h => xt121_at pc i h
  | 122, pc, i, h => xt122_at pc i h
  | 123, pc, i, h => xt123_at pc i h
  | 124, pc, i, h => xt124_at pc i h
  | 125, pc, i, h => xt125_at pc i h
  | 126, pc, i, h => xt126_at pc i h
  | 127, pc, i, h => xt127_at pc i h
  | 128, pc, i, h => xt128_at pc i h
  | 129, pc, i, h => xt129_at pc i h
  | 130, pc, i, h => xt130_at pc i h
  | 131, pc, i, h => xt131_at pc i h
  | 132, pc, i, h => xt132_at pc i h
  | 133, pc, i, h => xt133_at pc i h
  | 134, pc, i, h => xt134_at pc i h
  | 135, pc, i, h => xt135_at pc i h
  | 136, pc, i, h => xt136_at pc i h
  | 137, pc, i, h => xt137_at pc i h
  | 138, pc, i, h => xt138_at pc i h
  | 139, pc, i, h => xt139_at pc i h
  | 140, pc, i, h => xt140_at pc i h
  | 141, pc, i, h => xt141_at pc i h
  | 142, pc, i, h => xt142_at pc i h
  | 143, pc, i, h => xt143_at pc i h
  | 144, pc, i, h => xt144_at pc i h
  | (n + 145), pc, i, h => by
    have e : xTB.getD (n + 145) [] = [] := rfl
    rw [e] at h
    cases h
/-- their code words -/
theorem xwc : ∀ mi, mi < 144 → Cond.code (xY mi) (xCC mi) (xML mi) (xRT mi) ∈ xTbl
  | 0, _ => xTbl_at (i := 210) rfl rfl
  | 1, _ => xTbl_at (i := 562) rfl rfl
  | 2, _ => xTbl_at (i := 566) rfl rfl
  | 3, _ => xTbl_at (i := 569) rfl rfl
  | 4, _ => xTbl_at (i := 57) rfl rfl
  | 5, _ => xTbl_at (i := 224) rfl rfl
  | 6, _ => xTbl_at (i := 314) rfl rfl
  | 7, _ => xTbl_at (i := 319) rfl rfl
  | 8, _ => xTbl_at (i := 331) rfl rfl
  | 9, _ => xTbl_at (i := 228) rfl rfl
  | 10, _ => xTbl_at (i := 232) rfl rfl
  | 11, _ => xTbl_at (i := 235) rfl rfl
  | 12, _ => xTbl_at (i := 322) rfl rfl
  | 13, _ => xTbl_at (i := 238) rfl rfl
  | 14, _ => xTbl_at (i := 242) rfl rfl
  | 15, _ => xTbl_at (i := 129) rfl rfl
  | 16, _ => xTbl_at (i := 354) rfl rfl
  | 17, _ => xTbl_at (i := 363) rfl rfl
  | 18, _ => xTbl_at (i := 367) rfl rfl
  | 19, _ => xTbl_at (i := 399) rfl rfl
  | 20, _ => xTbl_at (i := 410) rfl rfl
  | 21, _ => xTbl_at (i := 418) rfl rfl
  | 22, _ => xTbl_at (i := 426) rfl rfl
  | 23, _ => xTbl_at (i := 436) rfl rfl
  | 24, _ => xTbl_at (i := 79) rfl rfl
  | 25, _ => xTbl_at (i := 583) rfl rfl
  | 26, _ => xTbl_at (i := 290) rfl rfl
  | 27, _ => xTbl_at (i := 379) rfl rfl
  | 28, _ => xTbl_at (i := 391) rfl rfl
  | 29, _ => xTbl_at (i := 335) rfl rfl
  | 30, _ => xTbl_at (i := 165) rfl rfl
  | 31, _ => xTbl_at (i := 294) rfl rfl
  | 32, _ => xTbl_at (i := 456) rfl rfl
  | 33, _ => xTbl_at (i := 459) rfl rfl
  | 34, _ => xTbl_at (i := 463) rfl rfl
  | 35, _ => xTbl_at (i := 469) rfl rfl
  | 36, _ => xTbl_at (i := 474) rfl rfl
  | 37, _ => xTbl_at (i := 452) rfl rfl
  | 38, _ => xTbl_at (i := 489) rfl rfl
  | 39, _ => xTbl_at (i := 520) rfl rfl
  | 40, _ => xTbl_at (i := 500) rfl rfl
  | 41, _ => xTbl_at (i := 504) rfl rfl
  | 42, _ => xTbl_at (i := 512) rfl rfl
  | 43, _ => xTbl_at (i := 516) rfl rfl
  | 44, _ => xTbl_at (i := 508) rfl rfl
  | 45, _ => xTbl_at (i := 496) rfl rfl
  | 46, _ => xTbl_at (i := 49) rfl rfl
  | 47, _ => xTbl_at (i := 278) rfl rfl
  | 48, _ => xTbl_at (i := 298) rfl rfl
  | 49, _ => xTbl_at (i := 302) rfl rfl
  | 50, _ => xTbl_at (i := 306) rfl rfl
  | 51, _ => xTbl_at (i := 310) rfl rfl
  | 52, _ => xTbl_at (i := 327) rfl rfl
  | 53, _ => xTbl_at (i := 346) rfl rfl
  | 54, _ => xTbl_at (i := 350) rfl rfl
  | 55, _ => xTbl_at (i := 371) rfl rfl
  | 56, _ => xTbl_at (i := 383) rfl rfl
  | 57, _ => xTbl_at (i := 387) rfl rfl
  | 58, _ => xTbl_at (i := 395) rfl rfl
  | 59, _ => xTbl_at (i := 414) rfl rfl
  | 60, _ => xTbl_at (i := 422) rfl rfl
  | 61, _ => xTbl_at (i := 432) rfl rfl
  | 62, _ => xTbl_at (i := 444) rfl rfl
  | 63, _ => xTbl_at (i := 448) rfl rfl
  | 64, _ => xTbl_at (i := 481) rfl rfl
  | 65, _ => xTbl_at (i := 485) rfl rfl
  | 66, _ => xTbl_at (i := 528) rfl rfl
  | 67, _ => xTbl_at (i := 532) rfl rfl
  | 68, _ => xTbl_at (i := 544) rfl rfl
  | 69, _ => xTbl_at (i := 524) rfl rfl
  | 70, _ => xTbl_at (i := 536) rfl rfl
  | 71, _ => xTbl_at (i := 548) rfl rfl
  | 72, _ => xTbl_at (i := 539) rfl rfl
  | 73, _ => xTbl_at (i := 553) rfl rfl
  | 74, _ => xTbl_at (i := 557) rfl rfl
  | 75, _ => xTbl_at (i := 574) rfl rfl
  | 76, _ => xTbl_at (i := 579) rfl rfl
  | 77, _ => xTbl_at (i := 588) rfl rfl
  | 78, _ => xTbl_at (i := 592) rfl rfl
  | 79, _ => xTbl_at (i := 596) rfl rfl
  | 80, _ => xTbl_at (i := 281) rfl rfl
  | 81, _ => xTbl_at (i := 286) rfl rfl
  | 82, _ => xTbl_at (i := 601) rfl rfl
  | 83, _ => xTbl_at (i := 691) rfl rfl
  | 84, _ => xTbl_at (i := 688) rfl rfl
  | 85, _ => xTbl_at (i := 685) rfl rfl
  | 86, _ => xTbl_at (i := 695) rfl rfl
  | 87, _ => xTbl_at (i := 699) rfl rfl
  | 88, _ => xTbl_at (i := 703) rfl rfl
  | 89, _ => xTbl_at (i := 711) rfl rfl
  | 90, _ => xTbl_at (i := 718) rfl rfl
  | 91, _ => xTbl_at (i := 715) rfl rfl
  | 92, _ => xTbl_at (i := 707) rfl rfl
  | 93, _ => xTbl_at (i := 722) rfl rfl
  | 94, _ => xTbl_at (i := 726) rfl rfl
  | 95, _ => xTbl_at (i := 742) rfl rfl
  | 96, _ => xTbl_at (i := 738) rfl rfl
  | 97, _ => xTbl_at (i := 734) rfl rfl
  | 98, _ => xTbl_at (i := 730) rfl rfl
  | 99, _ => xTbl_at (i := 749) rfl rfl
  | 100, _ => xTbl_at (i := 752) rfl rfl
  | 101, _ => xTbl_at (i := 746) rfl rfl
  | 102, _ => xTbl_at (i := 756) rfl rfl
  | 103, _ => xTbl_at (i := 764) rfl rfl
  | 104, _ => xTbl_at (i := 760) rfl rfl
  | 105, _ => xTbl_at (i := 774) rfl rfl
  | 106, _ => xTbl_at (i := 783) rfl rfl
  | 107, _ => xTbl_at (i := 779) rfl rfl
  | 108, _ => xTbl_at (i := 770) rfl rfl
  | 109, _ => xTbl_at (i := 787) rfl rfl
  | 110, _ => xTbl_at (i := 802) rfl rfl
  | 111, _ => xTbl_at (i := 795) rfl rfl
  | 112, _ => xTbl_at (i := 799) rfl rfl
  | 113, _ => xTbl_at (i := 791) rfl rfl
  | 114, _ => xTbl_at (i := 810) rfl rfl
  | 115, _ => xTbl_at (i := 806) rfl rfl
  | 116, _ => xTbl_at (i := 814) rfl rfl
  | 117, _ => xTbl_at (i := 832) rfl rfl
  | 118, _ => xTbl_at (i := 854) rfl rfl
  | 119, _ => xTbl_at (i := 829) rfl rfl
  | 120, _ => xTbl_at (i := 826) rfl rfl
  | 121, _ => xTbl_at (i := 822) rfl rfl
  | 122, _ => xTbl_at (i := 818) rfl rfl
  | 123, _ => xTbl_at (i := 836) rfl rfl
  | 124, _ => xTbl_at (i := 844) rfl rfl
  | 125, _ => xTbl_at (i := 851) rfl rfl
  | 126, _ => xTbl_at (i := 848) rfl rfl
  | 127, _ => xTbl_at (i := 840) rfl rfl
  | 128, _ => xTbl_at (i := 858) rfl rfl
  | 129, _ => xTbl_at (i := 866) rfl rfl
  | 130, _ => xTbl_at (i := 862) rfl rfl
  | 131, _ => xTbl_at (i := 870) rfl rfl
  | 132, _ => xTbl_at (i := 874) rfl rfl
  | 133, _ => xTbl_at (i := 878) rfl rfl
  | 134, _ => xTbl_at (i := 883) rfl rfl
  | 135, _ => xTbl_at (i := 887) rfl rfl
  | 136, _ => xTbl_at (i := 891) rfl rfl
  | 137, _ => xTbl_at (i := 895) rfl rfl
  | 138, _ => xTbl_at (i := 339) rfl rfl
  | 139, _ => xTbl_at (i := 359) rfl rfl
  | 140, _ => xTbl_at (i := 249) rfl rfl
  | 141, _ => xTbl_at (i := 406) rfl rfl
  | 142, _ => xTbl_at (i := 245) rfl rfl
  | 143, _ => xTbl_at (i := 87) rfl rfl
  | (n + 144), h => absurd h (by omega)
theorem xpl : ∀ mi, mi < 145 → plainName (xY mi).cls = true := by decide +kernel
theorem xds : ∀ mi, mi < 145 → (xY mi).cls ≠ "java/lang/invoke/MethodHandle" ∧ (xY mi).cls ≠ "java/lang/invoke/VarHandle" ∧ (parseMethodDescriptor (xY mi).desc).map (fun d => d.parameters.length) = some (xNP mi) := by decide +kernel
theorem xow : ∀ mi, mi < 145 → xRo (xOW mi) = (xY mi).cls ∧ xOW mi < 11 := by decide +kernel
theorem xin : ∀ mi, mi < 145 → xIN mi = true → (xY mi).name = "<init>" := by decide +kernel
theorem xml : ∀ mi, mi < 145 → xML mi ≤ 20 := by decide +kernel
def xly0 : List Nat := [216, 218]
theorem xlw0 : ∀ k, k < 2 → xwd (xly0.getD k 0) (u_lay RX0 TX0 k) = true := by decide +kernel
theorem xlI0 : ∀ w ∈ u_ws RX0 TX0 2, w ∈ xTbl := fun w hw => by
  obtain ⟨k, hk, rfl⟩ := List.mem_map.mp hw
  exact xwd_in (xlw0 k (List.mem_range.mp hk))
def xly1 : List Nat := [64, 66, 68, 70]
theorem xlw1 : ∀ k, k < 4 → xwd (xly1.getD k 0) (u_lay RX1 TX1 k) = true := by decide +kernel
theorem xlI1 : ∀ w ∈ u_ws RX1 TX1 4, w ∈ xTbl := fun w hw => by
  obtain ⟨k, hk, rfl⟩ := List.mem_map.mp hw
  exact xwd_in (xlw1 k (List.mem_range.mp hk))
def xly2 : List Nat := [143, 145, 147, 149, 151, 153, 155, 157]
theorem xlw2 : ∀ k, k < 8 → xwd (xly2.getD k 0) (u_lay RX2 TX2 k) = true := by decide +kernel
theorem xlI2 : ∀ w ∈ u_ws RX2 TX2 8, w ∈ xTbl := fun w hw => by
  obtain ⟨k, hk, rfl⟩ := List.mem_map.mp hw
  exact xwd_in (xlw2 k (List.mem_range.mp hk))
def xly3 : List Nat := [107, 109, 111, 113, 115, 117, 119, 121]
theorem xlw3 : ∀ k, k < 8 → xwd (xly3.getD k 0) (u_lay RX3 TX3 k) = true := by decide +kernel
theorem xlI3 : ∀ w ∈ u_ws RX3 TX3 8, w ∈ xTbl := fun w hw => by
  obtain ⟨k, hk, rfl⟩ := List.mem_map.mp hw
  exact xwd_in (xlw3 k (List.mem_range.mp hk))
def xly4 : List Nat := [181, 183, 185, 187, 189, 191, 193, 195, 197, 199, 201, 203]
theorem xlw4 : ∀ k, k < 12 → xwd (xly4.getD k 0) (u_lay RX4 TX4 k) = true := by decide +kernel
theorem xlI4 : ∀ w ∈ u_ws RX4 TX4 12, w ∈ xTbl := fun w hw => by
  obtain ⟨k, hk, rfl⟩ := List.mem_map.mp hw
  exact xwd_in (xlw4 k (List.mem_range.mp hk))
def xly5 : List Nat := [258, 260, 262, 264, 266, 268, 270, 272]
theorem xlw5 : ∀ k, k < 8 → xwd (xly5.getD k 0) (u_lay RX5 TX5 k) = true := by decide +kernel
theorem xlI5 : ∀ w ∈ u_ws RX5 TX5 8, w ∈ xTbl := fun w hw => by
  obtain ⟨k, hk, rfl⟩ := List.mem_map.mp hw
  exact xwd_in (xlw5 k (List.mem_range.mp hk))
def xly6 : List Nat := [629, 631, 633, 635, 637, 639, 641, 643, 645, 647, 649, 651, 653, 655, 657, 659, 661, 663, 665, 667, 669, 671, 673, 675, 677, 679]
theorem xlw6 : ∀ k, k < 26 → xwd (xly6.getD k 0) (u_lay RX6 TX6 k) = true := by decide +kernel
theorem xlI6 : ∀ w ∈ u_ws RX6 TX6 26, w ∈ xTbl := fun w hw => by
  obtain ⟨k, hk, rfl⟩ := List.mem_map.mp hw
  exact xwd_in (xlw6 k (List.mem_range.mp hk))
theorem xlI : ∀ ci, ci < 7 → ∀ w ∈ u_ws (xRo ci) (xTT ci) (xNN ci), w ∈ xTbl
  | 0, _ => xlI0
  | 1, _ => xlI1
  | 2, _ => xlI2
  | 3, _ => xlI3
  | 4, _ => xlI4
  | 5, _ => xlI5
  | 6, _ => xlI6
  | (n + 7), h => absurd h (by omega)
