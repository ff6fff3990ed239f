/-- the tables are the code -/
theorem xAt : ∀ (mi pc : Nat) (i : Instr × Nat), (xTB.getD mi [])[pc]? = some (some i) → decode (xCC mi) pc = .ok i
  | 0, pc, i, h => xt0_at pc i h
  | 1, pc, i, h => xt1_at pc i h
  | 2, pc, i, h => xt2_at pc i h
  | 3, pc, i, h => xt3_at pc i h
  | 4, pc, i, h => xt4_at pc i h
  | 5, pc, i, h => xt5_at pc i h
  | 6, pc, i, h => xt6_at pc i h
  | 7, pc, i, h => xt7_at pc i h
  | 8, pc, i, h => xt8_at pc i h
  | 9, pc, i, h => xt9_at pc i h
  | 10, pc, i, h => xt10_at pc i h
  | 11, pc, i, h => xt11_at pc i h
  | 12, pc, i, h => xt12_at pc i h
  | 13, pc, i, h => xt13_at pc i h
  | 14, pc, i, h => xt14_at pc i h
  | 15, pc, i, h => xt15_at pc i h
  | 16, pc, i, h => xt16_at pc i h
  | 17, pc, i, h => xt17_at pc i h
  | 18, pc, i, h => xt18_at pc i h
  | 19, pc, i, h => xt19_at pc i h
  | 20, pc, i, h => xt20_at pc i h
  | 21, pc, i, h => xt21_at pc i h
  | 22, pc, i, h => xt22_at pc i h
  | 23, pc, i, h => xt23_at pc i h
  | 24, pc, i, h => xt24_at pc i h
  | 25, pc, i, h => xt25_at pc i h
  | 26, pc, i, h => xt26_at pc i h
  | 27, pc, i, h => xt27_at pc i h
  | 28, pc, i, h => xt28_at pc i h
  | 29, pc, i, h => xt29_at pc i h
  | 30, pc, i, h => xt30_at pc i h
  | 31, pc, i, h => xt31_at pc i h
  | 32, pc, i, h => xt32_at pc i h
  | 33, pc, i, h => xt33_at pc i h
  | 34, pc, i, h => xt34_at pc i h
  | 35, pc, i, h => xt35_at pc i h
  | 36, pc, i, h => xt36_at pc i h
  | 37, pc, i, h => xt37_at pc i h
  | 38, pc, i, h => xt38_at pc i h
  | 39, pc, i, h => xt39_at pc i h
  | 40, pc, i, h => xt40_at pc i h
  | 41, pc, i, h => xt41_at pc i h
  | 42, pc, i, h => xt42_at pc i h
  | 43, pc, i, h => xt43_at pc i h
  | 44, pc, i, h => xt44_at pc i h
  | 45, pc, i, h => xt45_at pc i h
  | 46, pc, i, h => xt46_at pc i h
  | 47, pc, i, h => xt47_at pc i h
  | 48, pc, i, h => xt48_at pc i h
  | 49, pc, i, h => xt49_at pc i h
  | 50, pc, i, h => xt50_at pc i h
  | 51, pc, i, h => xt51_at pc i h
  | 52, pc, i, h => xt52_at pc i h
  | 53, pc, i, h => xt53_at pc i h
  | 54, pc, i, h => xt54_at pc i h
  | 55, pc, i, h => xt55_at pc i h
  | 56, pc, i, h => xt56_at pc i h
  | 57, pc, i, h => xt57_at pc i h
  | 58, pc, i, h => xt58_at pc i h
  | 59, pc, i, h => xt59_at pc i h
  | 60, pc, i, h => xt60_at pc i h
  | 61, pc, i, h => xt61_at pc i h
  | 62, pc, i, h => xt62_at pc i h
  | 63, pc, i, h => xt63_at pc i h
  | 64, pc, i, h => xt64_at pc i h
  | 65, pc, i, h => xt65_at pc i h
  | 66, pc, i, h => xt66_at pc i h
  | 67, pc, i, h => xt67_at pc i h
  | 68, pc, i, h => xt68_at pc i h
  | 69, pc, i, h => xt69_at pc i h
  | 70, pc, i, h => xt70_at pc i h
  | 71, pc, i, h => xt71_at pc i h
  | 72, pc, i, h => xt72_at pc i h
  | 73, pc, i, h => xt73_at pc i h
  | 74, pc, i, h => xt74_at pc i h
  | 75, pc, i, h => xt75_at pc i h
  | 76, pc, i, h => xt76_at pc i h
  | 77, pc, i, h => xt77_at pc i h
  | 78, pc, i, h => xt78_at pc i h
  | 79, pc, i, h => xt79_at pc i h
  | 80, pc, i, h => xt80_at pc i h
  | 81, pc, i, h => xt81_at pc i h
  | 82, pc, i, h => xt82_at pc i h
  | 83, pc, i, h => xt83_at pc i h
  | 84, pc, i, h => xt84_at pc i h
  | 85, pc, i, h => xt85_at pc i h
  | 86, pc, i, h => xt86_at pc i h
  | 87, pc, i, h => xt87_at pc i h
  | 88, pc, i, h => xt88_at pc i h
  | 89, pc, i, h => xt89_at pc i h
  | 90, pc, i, h => xt90_at pc i h
  | 91, pc, i, h => xt91_at pc i h
  | 92, pc, i, h => xt92_at pc i h
  | 93, pc, i, h => xt93_at pc i h
  | 94, pc, i, h => xt94_at pc i h
  | 95, pc, i, h => xt95_at pc i h
  | 96, pc, i, h => xt96_at pc i h
  | 97, pc, i, h => xt97_at pc i h
  | 98, pc, i, h => xt98_at pc i h
  | 99, pc, i, h => xt99_at pc i h
  | 100, pc, i, h => xt100_at pc i h
  | 101, pc, i, h => xt101_at pc i h
  | 102, pc, i, h => xt102_at pc i h
  | 103, pc, i, h => xt103_at pc i h
  | 104, pc, i, h => xt104_at pc i h
  | 105, pc, i, h => xt105_at pc i h
  | 106, pc, i, h => xt106_at pc i h
  | 107, pc, i, h => xt107_at pc i h
  | 108, pc, i, h => xt108_at pc i h
  | 109, pc, i, h => xt109_at pc i h
  | 110, pc, i, h => xt110_at pc i h
  | 111, pc, i, h => xt111_at pc i h
  | 112, pc, i, h => xt112_at pc i h
  | 113, pc, i, h => xt113_at pc i h
  | 114, pc, i, h => xt114_at pc i h
  | 115, pc, i, h => xt115_at pc i h
  | 116, pc, i, h => xt116_at pc i h
  | 117, pc, i, h => xt117_at pc i h
  | 118, pc, i, h => xt118_at pc i h
  | 119, pc, i, h => xt119_at pc i h
  | 120, pc, i, h => xt120_at pc i h
  | 121, pc, i, h => xt121_at pc i h
  | 122, pc, i, h => xt122_at pc i h
  | 123, pc, i, h => xt123_at pc i h
  | 124, pc, i, h => xt124_at pc i h
  | 125, pc, i, h => xt125_at pc i h
  | 126, pc, i, h => xt126_at pc i h
  | 127, pc, i, h => xt127_at pc i h
  | 128, pc, i, h => xt128_at pc i h
  | 129, pc, i, h => xt129_at pc i h
  | 130, pc, i, h => xt130_at pc i h
  | 131, pc, i, h => xt131_at pc i h
  | 132, pc, i, h => xt132_at pc i h
  | 133, pc, i, h => xt133_at pc i h
  | 134, pc, i, h => xt134_at pc i h
  | 135, pc, i, h => xt135_at pc i h
  | 136, pc, i, h => xt136_at pc i h
  | 137, pc, i, h => xt137_at pc i h
  | 138, pc, i, h => xt138_at pc i h
  | 139, pc, i, h => xt139_at pc i h
  | 140, pc, i, h => xt140_at pc i h
  | 141, pc, i, h => xt141_at pc i h
  | 142, pc, i, h => xt142_at pc i h
  | 143, pc, i, h => xt143_at pc i h
  | 144, pc, i, h => xt144_at pc i h
  | (n + 145), pc, i, h => by
    have e : xTB.getD (n + 145) [] = [] := rfl
    rw [e] at h
    cases h
/-- their code words -/
theorem xwc_0 : xwd (xWI 0) (Cond.code (xY 0) (xCC 0) (xML 0) (xRT 0)) = true := by decide +kernel
theorem xwc_1 : xwd (xWI 1) (Cond.code (xY 1) (xCC 1) (xML 1) (xRT 1)) = true := by decide +kernel
theorem xwc_2 : xwd (xWI 2) (Cond.code (xY 2) (xCC 2) (xML 2) (xRT 2)) = true := by decide +kernel
theorem xwc_3 : xwd (xWI 3) (Cond.code (xY 3) (xCC 3) (xML 3) (xRT 3)) = true := by decide +kernel
theorem xwc_4 : xwd (xWI 4) (Cond.code (xY 4) (xCC 4) (xML 4) (xRT 4)) = true := by decide +kernel
theorem xwc_5 : xwd (xWI 5) (Cond.code (xY 5) (xCC 5) (xML 5) (xRT 5)) = true := by decide +kernel
theorem xwc_6 : xwd (xWI 6) (Cond.code (xY 6) (xCC 6) (xML 6) (xRT 6)) = true := by decide +kernel
theorem xwc_7 : xwd (xWI 7) (Cond.code (xY 7) (xCC 7) (xML 7) (xRT 7)) = true := by decide +kernel
theorem xwc_8 : xwd (xWI 8) (Cond.code (xY 8) (xCC 8) (xML 8) (xRT 8)) = true := by decide +kernel
theorem xwc_9 : xwd (xWI 9) (Cond.code (xY 9) (xCC 9) (xML 9) (xRT 9)) = true := by decide +kernel
theorem xwc_10 : xwd (xWI 10) (Cond.code (xY 10) (xCC 10) (xML 10) (xRT 10)) = true := by decide +kernel
theorem xwc_11 : xwd (xWI 11) (Cond.code (xY 11) (xCC 11) (xML 11) (xRT 11)) = true := by decide +kernel
theorem xwc_12 : xwd (xWI 12) (Cond.code (xY 12) (xCC 12) (xML 12) (xRT 12)) = true := by decide +kernel
theorem xwc_13 : xwd (xWI 13) (Cond.code (xY 13) (xCC 13) (xML 13) (xRT 13)) = true := by decide +kernel
theorem xwc_14 : xwd (xWI 14) (Cond.code (xY 14) (xCC 14) (xML 14) (xRT 14)) = true := by decide +kernel
theorem xwc_15 : xwd (xWI 15) (Cond.code (xY 15) (xCC 15) (xML 15) (xRT 15)) = true := by decide +kernel
theorem xwc_16 : xwd (xWI 16) (Cond.code (xY 16) (xCC 16) (xML 16) (xRT 16)) = true := by decide +kernel
theorem xwc_17 : xwd (xWI 17) (Cond.code (xY 17) (xCC 17) (xML 17) (xRT 17)) = true := by decide +kernel
theorem xwc_18 : xwd (xWI 18) (Cond.code (xY 18) (xCC 18) (xML 18) (xRT 18)) = true := by decide +kernel
theorem xwc_19 : xwd (xWI 19) (Cond.code (xY 19) (xCC 19) (xML 19) (xRT 19)) = true := by decide +kernel
theorem xwc_20 : xwd (xWI 20) (Cond.code (xY 20) (xCC 20) (xML 20) (xRT 20)) = true := by decide +kernel
theorem xwc_21 : xwd (xWI 21) (Cond.code (xY 21) (xCC 21) (xML 21) (xRT 21)) = true := by decide +kernel
theorem xwc_22 : xwd (xWI 22) (Cond.code (xY 22) (xCC 22) (xML 22) (xRT 22)) = true := by decide +kernel
theorem xwc_23 : xwd (xWI 23) (Cond.code (xY 23) (xCC 23) (xML 23) (xRT 23)) = true := by decide +kernel
theorem xwc_24 : xwd (xWI 24) (Cond.code (xY 24) (xCC 24) (xML 24) (xRT 24)) = true := by decide +kernel
theorem xwc_25 : xwd (xWI 25) (Cond.code (xY 25) (xCC 25) (xML 25) (xRT 25)) = true := by decide +kernel
theorem xwc_26 : xwd (xWI 26) (Cond.code (xY 26) (xCC 26) (xML 26) (xRT 26)) = true := by decide +kernel
theorem xwc_27 : xwd (xWI 27) (Cond.code (xY 27) (xCC 27) (xML 27) (xRT 27)) = true := by decide +kernel
theorem xwc_28 : xwd (xWI 28) (Cond.code (xY 28) (xCC 28) (xML 28) (xRT 28)) = true := by decide +kernel
theorem xwc_29 : xwd (xWI 29) (Cond.code (xY 29) (xCC 29) (xML 29) (xRT 29)) = true := by decide +kernel
theorem xwc_30 : xwd (xWI 30) (Cond.code (xY 30) (xCC 30) (xML 30) (xRT 30)) = true := by decide +kernel
theorem xwc_31 : xwd (xWI 31) (Cond.code (xY 31) (xCC 31) (xML 31) (xRT 31)) = true := by decide +kernel
theorem xwc_32 : xwd (xWI 32) (Cond.code (xY 32) (xCC 32) (xML 32) (xRT 32)) = true := by decide +kernel
theorem xwc_33 : xwd (xWI 33) (Cond.code (xY 33) (xCC 33) (xML 33) (xRT 33)) = true := by decide +kernel
theorem xwc_34 : xwd (xWI 34) (Cond.code (xY 34) (xCC 34) (xML 34) (xRT 34)) = true := by decide +kernel
theorem xwc_35 : xwd (xWI 35) (Cond.code (xY 35) (xCC 35) (xML 35) (xRT 35)) = true := by decide +kernel
theorem xwc_36 : xwd (xWI 36) (Cond.code (xY 36) (xCC 36) (xML 36) (xRT 36)) = true := by decide +kernel
theorem xwc_37 : xwd (xWI 37) (Cond.code (xY 37) (xCC 37) (xML 37) (xRT 37)) = true := by decide +kernel
theorem xwc_38 : xwd (xWI 38) (Cond.code (xY 38) (xCC 38) (xML 38) (xRT 38)) = true := by decide +kernel
theorem xwc_39 : xwd (xWI 39) (Cond.code (xY 39) (xCC 39) (xML 39) (xRT 39)) = true := by decide +kernel
theorem xwc_40 : xwd (xWI 40) (Cond.code (xY 40) (xCC 40) (xML 40) (xRT 40)) = true := by decide +kernel
theorem xwc_41 : xwd (xWI 41) (Cond.code (xY 41) (xCC 41) (xML 41) (xRT 41)) = true := by decide +kernel
theorem xwc_42 : xwd (xWI 42) (Cond.code (xY 42) (xCC 42) (xML 42) (xRT 42)) = true := by decide +kernel
theorem xwc_43 : xwd (xWI 43) (Cond.code (xY 43) (xCC 43) (xML 43) (xRT 43)) = true := by decide +kernel
theorem xwc_44 : xwd (xWI 44) (Cond.code (xY 44) (xCC 44) (xML 44) (xRT 44)) = true := by decide +kernel
theorem xwc_45 : xwd (xWI 45) (Cond.code (xY 45) (xCC 45) (xML 45) (xRT 45)) = true := by decide +kernel
theorem xwc_46 : xwd (xWI 46) (Cond.code (xY 46) (xCC 46) (xML 46) (xRT 46)) = true := by decide +kernel
theorem xwc_47 : xwd (xWI 47) (Cond.code (xY 47) (xCC 47) (xML 47) (xRT 47)) = true := by decide +kernel
theorem xwc_48 : xwd (xWI 48) (Cond.code (xY 48) (xCC 48) (xML 48) (xRT 48)) = true := by decide +kernel
theorem xwc_49 : xwd (xWI 49) (Cond.code (xY 49) (xCC 49) (xML 49) (xRT 49)) = true := by decide +kernel
theorem xwc_50 : xwd (xWI 50) (Cond.code (xY 50) (xCC 50) (xML 50) (xRT 50)) = true := by decide +kernel
theorem xwc_51 : xwd (xWI 51) (Cond.code (xY 51) (xCC 51) (xML 51) (xRT 51)) = true := by decide +kernel
theorem xwc_52 : xwd (xWI 52) (Cond.code (xY 52) (xCC 52) (xML 52) (xRT 52)) = true := by decide +kernel
theorem xwc_53 : xwd (xWI 53) (Cond.code (xY 53) (xCC 53) (xML 53) (xRT 53)) = true := by decide +kernel
theorem xwc_54 : xwd (xWI 54) (Cond.code (xY 54) (xCC 54) (xML 54) (xRT 54)) = true := by decide +kernel
theorem xwc_55 : xwd (xWI 55) (Cond.code (xY 55) (xCC 55) (xML 55) (xRT 55)) = true := by decide +kernel
theorem xwc_56 : xwd (xWI 56) (Cond.code (xY 56) (xCC 56) (xML 56) (xRT 56)) = true := by decide +kernel
theorem xwc_57 : xwd (xWI 57) (Cond.code (xY 57) (xCC 57) (xML 57) (xRT 57)) = true := by decide +kernel
theorem xwc_58 : xwd (xWI 58) (Cond.code (xY 58) (xCC 58) (xML 58) (xRT 58)) = true := by decide +kernel
theorem xwc_59 : xwd (xWI 59) (Cond.code (xY 59) (xCC 59) (xML 59) (xRT 59)) = true := by decide +kernel
theorem xwc_60 : xwd (xWI 60) (Cond.code (xY 60) (xCC 60) (xML 60) (xRT 60)) = true := by decide +kernel
theorem xwc_61 : xwd (xWI 61) (Cond.code (xY 61) (xCC 61) (xML 61) (xRT 61)) = true := by decide +kernel
theorem xwc_62 : xwd (xWI 62) (Cond.code (xY 62) (xCC 62) (xML 62) (xRT 62)) = true := by decide +kernel
theorem xwc_63 : xwd (xWI 63) (Cond.code (xY 63) (xCC 63) (xML 63) (xRT 63)) = true := by decide +kernel
theorem xwc_64 : xwd (xWI 64) (Cond.code (xY 64) (xCC 64) (xML 64) (xRT 64)) = true := by decide +kernel
theorem xwc_65 : xwd (xWI 65) (Cond.code (xY 65) (xCC 65) (xML 65) (xRT 65)) = true := by decide +kernel
theorem xwc_66 : xwd (xWI 66) (Cond.code (xY 66) (xCC 66) (xML 66) (xRT 66)) = true := by decide +kernel
theorem xwc_67 : xwd (xWI 67) (Cond.code (xY 67) (xCC 67) (xML 67) (xRT 67)) = true := by decide +kernel
theorem xwc_68 : xwd (xWI 68) (Cond.code (xY 68) (xCC 68) (xML 68) (xRT 68)) = true := by decide +kernel
theorem xwc_69 : xwd (xWI 69) (Cond.code (xY 69) (xCC 69) (xML 69) (xRT 69)) = true := by decide +kernel
theorem xwc_70 : xwd (xWI 70) (Cond.code (xY 70) (xCC 70) (xML 70) (xRT 70)) = true := by decide +kernel
theorem xwc_71 : xwd (xWI 71) (Cond.code (xY 71) (xCC 71) (xML 71) (xRT 71)) = true := by decide +kernel
theorem xwc_72 : xwd (xWI 72) (Cond.code (xY 72) (xCC 72) (xML 72) (xRT 72)) = true := by decide +kernel
theorem xwc_73 : xwd (xWI 73) (Cond.code (xY 73) (xCC 73) (xML 73) (xRT 73)) = true := by decide +kernel
theorem xwc_74 : xwd (xWI 74) (Cond.code (xY 74) (xCC 74) (xML 74) (xRT 74)) = true := by decide +kernel
theorem xwc_75 : xwd (xWI 75) (Cond.code (xY 75) (xCC 75) (xML 75) (xRT 75)) = true := by decide +kernel
theorem xwc_76 : xwd (xWI 76) (Cond.code (xY 76) (xCC 76) (xML 76) (xRT 76)) = true := by decide +kernel
theorem xwc_77 : xwd (xWI 77) (Cond.code (xY 77) (xCC 77) (xML 77) (xRT 77)) = true := by decide +kernel
theorem xwc_78 : xwd (xWI 78) (Cond.code (xY 78) (xCC 78) (xML 78) (xRT 78)) = true := by decide +kernel
theorem xwc_79 : xwd (xWI 79) (Cond.code (xY 79) (xCC 79) (xML 79) (xRT 79)) = true := by decide +kernel
theorem xwc_80 : xwd (xWI 80) (Cond.code (xY 80) (xCC 80) (xML 80) (xRT 80)) = true := by decide +kernel
theorem xwc_81 : xwd (xWI 81) (Cond.code (xY 81) (xCC 81) (xML 81) (xRT 81)) = true := by decide +kernel
theorem xwc_82 : xwd (xWI 82) (Cond.code (xY 82) (xCC 82) (xML 82) (xRT 82)) = true := by decide +kernel
theorem xwc_83 : xwd (xWI 83) (Cond.code (xY 83) (xCC 83) (xML 83) (xRT 83)) = true := by decide +kernel
theorem xwc_84 : xwd (xWI 84) (Cond.code (xY 84) (xCC 84) (xML 84) (xRT 84)) = true := by decide +kernel
theorem xwc_85 : xwd (xWI 85) (Cond.code (xY 85) (xCC 85) (xML 85) (xRT 85)) = true := by decide +kernel
theorem xwc_86 : xwd (xWI 86) (Cond.code (xY 86) (xCC 86) (xML 86) (xRT 86)) = true := by decide +kernel
theorem xwc_87 : xwd (xWI 87) (Cond.code (xY 87) (xCC 87) (xML 87) (xRT 87)) = true := by decide +kernel
theorem xwc_88 : xwd (xWI 88) (Cond.code (xY 88) (xCC 88) (xML 88) (xRT 88)) = true := by decide +kernel
theorem xwc_89 : xwd (xWI 89) (Cond.code (xY 89) (xCC 89) (xML 89) (xRT 89)) = true := by decide +kernel
theorem xwc_90 : xwd (xWI 90) (Cond.code (xY 90) (xCC 90) (xML 90) (xRT 90)) = true := by decide +kernel
theorem xwc_91 : xwd (xWI 91) (Cond.code (xY 91) (xCC 91) (xML 91) (xRT 91)) = true := by decide +kernel
theorem xwc_92 : xwd (xWI 92) (Cond.code (xY 92) (xCC 92) (xML 92) (xRT 92)) = true := by decide +kernel
theorem xwc_93 : xwd (xWI 93) (Cond.code (xY 93) (xCC 93) (xML 93) (xRT 93)) = true := by decide +kernel
theorem xwc_94 : xwd (xWI 94) (Cond.code (xY 94) (xCC 94) (xML 94) (xRT 94)) = true := by decide +kernel
theorem xwc_95 : xwd (xWI 95) (Cond.code (xY 95) (xCC 95) (xML 95) (xRT 95)) = true := by decide +kernel
theorem xwc_96 : xwd (xWI 96) (Cond.code (xY 96) (xCC 96) (xML 96) (xRT 96)) = true := by decide +kernel
theorem xwc_97 : xwd (xWI 97) (Cond.code (xY 97) (xCC 97) (xML 97) (xRT 97)) = true := by decide +kernel
theorem xwc_98 : xwd (xWI 98) (Cond.code (xY 98) (xCC 98) (xML 98) (xRT 98)) = true := by decide +kernel
theorem xwc_99 : xwd (xWI 99) (Cond.code (xY 99) (xCC 99) (xML 99) (xRT 99)) = true := by decide +kernel
theorem xwc_100 : xwd (xWI 100) (Cond.code (xY 100) (xCC 100) (xML 100) (xRT 100)) = true := by decide +kernel
theorem xwc_101 : xwd (xWI 101) (Cond.code (xY 101) (xCC 101) (xML 101) (xRT 101)) = true := by decide +kernel
theorem xwc_102 : xwd (xWI 102) (Cond.code (xY 102) (xCC 102) (xML 102) (xRT 102)) = true := by decide +kernel
theorem xwc_103 : xwd (xWI 103) (Cond.code (xY 103) (xCC 103) (xML 103) (xRT 103)) = true := by decide +kernel
theorem xwc_104 : xwd (xWI 104) (Cond.code (xY 104) (xCC 104) (xML 104) (xRT 104)) = true := by decide +kernel
theorem xwc_105 : xwd (xWI 105) (Cond.code (xY 105) (xCC 105) (xML 105) (xRT 105)) = true := by decide +kernel
theorem xwc_106 : xwd (xWI 106) (Cond.code (xY 106) (xCC 106) (xML 106) (xRT 106)) = true := by decide +kernel
theorem xwc_107 : xwd (xWI 107) (Cond.code (xY 107) (xCC 107) (xML 107) (xRT 107)) = true := by decide +kernel
theorem xwc_108 : xwd (xWI 108) (Cond.code (xY 108) (xCC 108) (xML 108) (xRT 108)) = true := by decide +kernel
theorem xwc_109 : xwd (xWI 109) (Cond.code (xY 109) (xCC 109) (xML 109) (xRT 109)) = true := by decide +kernel
theorem xwc_110 : xwd (xWI 110) (Cond.code (xY 110) (xCC 110) (xML 110) (xRT 110)) = true := by decide +kernel
theorem xwc_111 : xwd (xWI 111) (Cond.code (xY 111) (xCC 111) (xML 111) (xRT 111)) = true := by decide +kernel
theorem xwc_112 : xwd (xWI 112) (Cond.code (xY 112) (xCC 112) (xML 112) (xRT 112)) = true := by decide +kernel
theorem xwc_113 : xwd (xWI 113) (Cond.code (xY 113) (xCC 113) (xML 113) (xRT 113)) = true := by decide +kernel
theorem xwc_114 : xwd (xWI 114) (Cond.code (xY 114) (xCC 114) (xML 114) (xRT 114)) = true := by decide +kernel
theorem xwc_115 : xwd (xWI 115) (Cond.code (xY 115) (xCC 115) (xML 115) (xRT 115)) = true := by decide +kernel
theorem xwc_116 : xwd (xWI 116) (Cond.code (xY 116) (xCC 116) (xML 116) (xRT 116)) = true := by decide +kernel
theorem xwc_117 : xwd (xWI 117) (Cond.code (xY 117) (xCC 117) (xML 117) (xRT 117)) = true := by decide +kernel
theorem xwc_118 : xwd (xWI 118) (Cond.code (xY 118) (xCC 118) (xML 118) (xRT 118)) = true := by decide +kernel
theorem xwc_119 : xwd (xWI 119) (Cond.code (xY 119) (xCC 119) (xML 119) (xRT 119)) = true := by decide +kernel
theorem xwc_120 : xwd (xWI 120) (Cond.code (xY 120) (xCC 120) (xML 120) (xRT 120)) = true := by decide +kernel
theorem xwc_121 : xwd (xWI 121) (Cond.code (xY 121) (xCC 121) (xML 121) (xRT 121)) = true := by decide +kernel
theorem xwc_122 : xwd (xWI 122) (Cond.code (xY 122) (xCC 122) (xML 122) (xRT 122)) = true := by decide +kernel
theorem xwc_123 : xwd (xWI 123) (Cond.code (xY 123) (xCC 123) (xML 123) (xRT 123)) = true := by decide +kernel
theorem xwc_124 : xwd (xWI 124) (Cond.code (xY 124) (xCC 124) (xML 124) (xRT 124)) = true := by decide +kernel
theorem xwc_125 : xwd (xWI 125) (Cond.code (xY 125) (xCC 125) (xML 125) (xRT 125)) = true := by decide +kernel
theorem xwc_126 : xwd (xWI 126) (Cond.code (xY 126) (xCC 126) (xML 126) (xRT 126)) = true := by decide +kernel
theorem xwc_127 : xwd (xWI 127) (Cond.code (xY 127) (xCC 127) (xML 127) (xRT 127)) = true := by decide +kernel
theorem xwc_128 : xwd (xWI 128) (Cond.code (xY 128) (xCC 128) (xML 128) (xRT 128)) = true := by decide +kernel
theorem xwc_129 : xwd (xWI 129) (Cond.code (xY 129) (xCC 129) (xML 129) (xRT 129)) = true := by decide +kernel
theorem xwc_130 : xwd (xWI 130) (Cond.code (xY 130) (xCC 130) (xML 130) (xRT 130)) = true := by decide +kernel
theorem xwc_131 : xwd (xWI 131) (Cond.code (xY 131) (xCC 131) (xML 131) (xRT 131)) = true := by decide +kernel
theorem xwc_132 : xwd (xWI 132) (Cond.code (xY 132) (xCC 132) (xML 132) (xRT 132)) = true := by decide +kernel
theorem xwc_133 : xwd (xWI 133) (Cond.code (xY 133) (xCC 133) (xML 133) (xRT 133)) = true := by decide +kernel
theorem xwc_134 : xwd (xWI 134) (Cond.code (xY 134) (xCC 134) (xML 134) (xRT 134)) = true := by decide +kernel
theorem xwc_135 : xwd (xWI 135) (Cond.code (xY 135) (xCC 135) (xML 135) (xRT 135)) = true := by decide +kernel
theorem xwc_136 : xwd (xWI 136) (Cond.code (xY 136) (xCC 136) (xML 136) (xRT 136)) = true := by decide +kernel
theorem xwc_137 : xwd (xWI 137) (Cond.code (xY 137) (xCC 137) (xML 137) (xRT 137)) = true := by decide +kernel
theorem xwc_138 : xwd (xWI 138) (Cond.code (xY 138) (xCC 138) (xML 138) (xRT 138)) = true := by decide +kernel
theorem xwc_139 : xwd (xWI 139) (Cond.code (xY 139) (xCC 139) (xML 139) (xRT 139)) = true := by decide +kernel
theorem xwc_140 : xwd (xWI 140) (Cond.code (xY 140) (xCC 140) (xML 140) (xRT 140)) = true := by decide +kernel
theorem xwc_141 : xwd (xWI 141) (Cond.code (xY 141) (xCC 141) (xML 141) (xRT 141)) = true := by decide +kernel
theorem xwc_142 : xwd (xWI 142) (Cond.code (xY 142) (xCC 142) (xML 142) (xRT 142)) = true := by decide +kernel
theorem xwc_143 : xwd (xWI 143) (Cond.code (xY 143) (xCC 143) (xML 143) (xRT 143)) = true := by decide +kernel
theorem xwc : ∀ mi, mi < 144 → Cond.code (xY mi) (xCC mi) (xML mi) (xRT mi) ∈ xTbl
  | 0, _ => xwd_in xwc_0
  | 1, _ => xwd_in xwc_1
  | 2, _ => xwd_in xwc_2
  | 3, _ => xwd_in xwc_3
  | 4, _ => xwd_in xwc_4
  | 5, _ => xwd_in xwc_5
  | 6, _ => xwd_in xwc_6
  | 7, _ => xwd_in xwc_7
  | 8, _ => xwd_in xwc_8
  | 9, _ => xwd_in xwc_9
  | 10, _ => xwd_in xwc_10
  | 11, _ => xwd_in xwc_11
  | 12, _ => xwd_in xwc_12
  | 13, _ => xwd_in xwc_13
  | 14, _ => xwd_in xwc_14
  | 15, _ => xwd_in xwc_15
  | 16, _ => xwd_in xwc_16
  | 17, _ => xwd_in xwc_17
  | 18, _ => xwd_in xwc_18
  | 19, _ => xwd_in xwc_19
  | 20, _ => xwd_in xwc_20
  | 21, _ => xwd_in xwc_21
  | 22, _ => xwd_in xwc_22
  | 23, _ => xwd_in xwc_23
  | 24, _ => xwd_in xwc_24
  | 25, _ => xwd_in xwc_25
  | 26, _ => xwd_in xwc_26
  | 27, _ => xwd_in xwc_27
  | 28, _ => xwd_in xwc_28
  | 29, _ => xwd_in xwc_29
  | 30, _ => xwd_in xwc_30
  | 31, _ => xwd_in xwc_31
  | 32, _ => xwd_in xwc_32
  | 33, _ => xwd_in xwc_33
  | 34, _ => xwd_in xwc_34
  | 35, _ => xwd_in xwc_35
  | 36, _ => xwd_in xwc_36
  | 37, _ => xwd_in xwc_37
  | 38, _ => xwd_in xwc_38
  | 39, _ => xwd_in xwc_39
  | 40, _ => xwd_in xwc_40
  | 41, _ => xwd_in xwc_41
  | 42, _ => xwd_in xwc_42
  | 43, _ => xwd_in xwc_43
  | 44, _ => xwd_in xwc_44
  | 45, _ => xwd_in xwc_45
  | 46, _ => xwd_in xwc_46
  | 47, _ => xwd_in xwc_47
  | 48, _ => xwd_in xwc_48
  | 49, _ => xwd_in xwc_49
  | 50, _ => xwd_in xwc_50
  | 51, _ => xwd_in xwc_51
  | 52, _ => xwd_in xwc_52
  | 53, _ => xwd_in xwc_53
  | 54, _ => xwd_in xwc_54
  | 55, _ => xwd_in xwc_55
  | 56, _ => xwd_in xwc_56
  | 57, _ => xwd_in xwc_57
  | 58, _ => xwd_in xwc_58
  | 59, _ => xwd_in xwc_59
  | 60, _ => xwd_in xwc_60
  | 61, _ => xwd_in xwc_61
  | 62, _ => xwd_in xwc_62
  | 63, _ => xwd_in xwc_63
  | 64, _ => xwd_in xwc_64
  | 65, _ => xwd_in xwc_65
  | 66, _ => xwd_in xwc_66
  | 67, _ => xwd_in xwc_67
  | 68, _ => xwd_in xwc_68
  | 69, _ => xwd_in xwc_69
  | 70, _ => xwd_in xwc_70
  | 71, _ => xwd_in xwc_71
  | 72, _ => xwd_in xwc_72
  | 73, _ => xwd_in xwc_73
  | 74, _ => xwd_in xwc_74
  | 75, _ => xwd_in xwc_75
  | 76, _ => xwd_in xwc_76
  | 77, _ => xwd_in xwc_77
  | 78, _ => xwd_in xwc_78
  | 79, _ => xwd_in xwc_79
  | 80, _ => xwd_in xwc_80
  | 81, _ => xwd_in xwc_81
  | 82, _ => xwd_in xwc_82
  | 83, _ => xwd_in xwc_83
  | 84, _ => xwd_in xwc_84
  | 85, _ => xwd_in xwc_85
  | 86, _ => xwd_in xwc_86
  | 87, _ => xwd_in xwc_87
  | 88, _ => xwd_in xwc_88
  | 89, _ => xwd_in xwc_89
  | 90, _ => xwd_in xwc_90
  | 91, _ => xwd_in xwc_91
  | 92, _ => xwd_in xwc_92
  | 93, _ => xwd_in xwc_93
  | 94, _ => xwd_in xwc_94
  | 95, _ => xwd_in xwc_95
  | 96, _ => xwd_in xwc_96
  | 97, _ => xwd_in xwc_97
  | 98, _ => xwd_in xwc_98
  | 99, _ => xwd_in xwc_99
  | 100, _ => xwd_in xwc_100
  | 101, _ => xwd_in xwc_101
  | 102, _ => xwd_in xwc_102
  | 103, _ => xwd_in xwc_103
  | 104, _ => xwd_in xwc_104
  | 105, _ => xwd_in xwc_105
  | 106, _ => xwd_in xwc_106
  | 107, _ => xwd_in xwc_107
  | 108, _ => xwd_in xwc_108
  | 109, _ => xwd_in xwc_109
  | 110, _ => xwd_in xwc_110
  | 111, _ => xwd_in xwc_111
  | 112, _ => xwd_in xwc_112
  | 113, _ => xwd_in xwc_113
  | 114, _ => xwd_in xwc_114
  | 115, _ => xwd_in xwc_115
  | 116, _ => xwd_in xwc_116
  | 117, _ => xwd_in xwc_117
  | 118, _ => xwd_in xwc_118
  | 119, _ => xwd_in xwc_119
  | 120, _ => xwd_in xwc_120
  | 121, _ => xwd_in xwc_121
  | 122, _ => xwd_in xwc_122
  | 123, _ => xwd_in xwc_123
  | 124, _ => xwd_in xwc_124
  | 125, _ => xwd_in xwc_125
  | 126, _ => xwd_in xwc_126
  | 127, _ => xwd_in xwc_127
  | 128, _ => xwd_in xwc_128
  | 129, _ => xwd_in xwc_129
  | 130, _ => xwd_in xwc_130
  | 131, _ => xwd_in xwc_131
  | 132, _ => xwd_in xwc_132
  | 133, _ => xwd_in xwc_133
  | 134, _ => xwd_in xwc_134
  | 135, _ => xwd_in xwc_135
  | 136, _ => xwd_in xwc_136
  | 137, _ => xwd_in xwc_137
  | 138, _ => xwd_in xwc_138
  | 139, _ => xwd_in xwc_139
  | 140, _ => xwd_in xwc_140
  | 141, _ => xwd_in xwc_141
  | 142, _ => xwd_in xwc_142
  | 143, _ => xwd_in xwc_143
  | (n + 144), h => absurd h (by omega)
theorem xpl : ∀ mi, mi < 145 → plainFor (xY mi) = true := by decide +kernel
theorem xds : ∀ mi, mi < 145 → (xY mi).cls ≠ "java/lang/invoke/MethodHandle" ∧ (xY mi).cls ≠ "java/lang/invoke/VarHandle" ∧ (parseMethodDescriptor (xY mi).desc).map (fun d => d.parameters.length) = some (xNP mi) := by decide +kernel
theorem xow : ∀ mi, mi < 145 → xRo (xOW mi) = (xY mi).cls ∧ xOW mi < 11 := by decide +kernel
theorem xin : ∀ mi, mi < 145 → xIN mi = true → (xY mi).name = "<init>" := by decide +kernel
theorem xml : ∀ mi, mi < 145 → xML mi ≤ 20 := by decide +kernel
def xly0 : List Nat := [216, 218]
theorem xlw0 : ∀ k, k < 2 → xwd (xly0.getD k 0) (u_lay RX0 TX0 k) = true := by decide +kernel
theorem xlI0 : ∀ w ∈ u_ws RX0 TX0 2, w ∈ xTbl := fun w hw => by
  obtain ⟨k, hk, rfl⟩ := List.mem_map.mp hw
  exact xwd_in (xlw0 k (List.mem_range.mp hk))
def xly1 : List Nat := [64, 66, 68, 70]
theorem xlw1 : ∀ k, k < 4 → xwd (xly1.getD k 0) (u_lay RX1 TX1 k) = true := by decide +kernel
theorem xlI1 : ∀ w ∈ u_ws RX1 TX1 4, w ∈ xTbl := fun w hw => by
  obtain ⟨k, hk, rfl⟩ := List.mem_map.mp hw
  exact xwd_in (xlw1 k (List.mem_range.mp hk))
def xly2 : List Nat := [143, 145, 147, 149, 151, 153, 155, 157]
theorem xlw2 : ∀ k, k < 8 → xwd (xly2.getD k 0) (u_lay RX2 TX2 k) = true := by decide +kernel
theorem xlI2 : ∀ w ∈ u_ws RX2 TX2 8, w ∈ xTbl := fun w hw => by
  obtain ⟨k, hk, rfl⟩ := List.mem_map.mp hw
  exact xwd_in (xlw2 k (List.mem_range.mp hk))
def xly3 : List Nat := [107, 109, 111, 113, 115, 117, 119, 121]
theorem xlw3 : ∀ k, k < 8 → xwd (xly3.getD k 0) (u_lay RX3 TX3 k) = true := by decide +kernel
theorem xlI3 : ∀ w ∈ u_ws RX3 TX3 8, w ∈ xTbl := fun w hw => by
  obtain ⟨k, hk, rfl⟩ := List.mem_map.mp hw
  exact xwd_in (xlw3 k (List.mem_range.mp hk))
def xly4 : List Nat := [181, 183, 185, 187, 189, 191, 193, 195, 197, 199, 201, 203]
theorem xlw4 : ∀ k, k < 12 → xwd (xly4.getD k 0) (u_lay RX4 TX4 k) = true := by decide +kernel
theorem xlI4 : ∀ w ∈ u_ws RX4 TX4 12, w ∈ xTbl := fun w hw => by
  obtain ⟨k, hk, rfl⟩ := List.mem_map.mp hw
  exact xwd_in (xlw4 k (List.mem_range.mp hk))
def xly5 : List Nat := [258, 260, 262, 264, 266, 268, 270, 272]
theorem xlw5 : ∀ k, k < 8 → xwd (xly5.getD k 0) (u_lay RX5 TX5 k) = true := by decide +kernel
theorem xlI5 : ∀ w ∈ u_ws RX5 TX5 8, w ∈ xTbl := fun w hw => by
  obtain ⟨k, hk, rfl⟩ := List.mem_map.mp hw
  exact xwd_in (xlw5 k (List.mem_range.mp hk))
def xly6 : List Nat := [629, 631, 633, 635, 637, 639, 641, 643, 645, 647, 649, 651, 653, 655, 657, 659, 661, 663, 665, 667, 669, 671, 673, 675, 677, 679]
theorem xlw6 : ∀ k, k < 26 → xwd (xly6.getD k 0) (u_lay RX6 TX6 k) = true := by decide +kernel
theorem xlI6 : ∀ w ∈ u_ws RX6 TX6 26, w ∈ xTbl := fun w hw => by
  obtain ⟨k, hk, rfl⟩ := List.mem_map.mp hw
  exact xwd_in (xlw6 k (List.mem_range.mp hk))
theorem xlI : ∀ ci, ci < 7 → ∀ w ∈ u_ws (xRo ci) (xTT ci) (xNN ci), w ∈ xTbl
  | 0, _ => xlI0
  | 1, _ => xlI1
  | 2, _ => xlI2
  | 3, _ => xlI3
  | 4, _ => xlI4
  | 5, _ => xlI5
  | 6, _ => xlI6
  | (n + 7), h => absurd h (by omega)
