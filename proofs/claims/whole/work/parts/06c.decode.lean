theorem zau {f : zK → Bool} {a b : List zK} (h1 : a.all f = true) (h2 : b.all f = true) : (a ++ b).all f = true := by rw [List.all_append, h1, h2]; rfl
set_option maxRecDepth 100000 in
theorem zu_0_0 : zk_0_0.all (zdB (zb 0)) = true := by decide +kernel
set_option maxRecDepth 100000 in
theorem zu_1_0 : zk_1_0.all (zdB (zb 1)) = true := by decide +kernel
set_option maxRecDepth 100000 in
theorem zu_2_0 : zk_2_0.all (zdB (zb 2)) = true := by decide +kernel
set_option maxRecDepth 100000 in
theorem zu_3_0 : zk_3_0.all (zdB (zb 3)) = true := by decide +kernel
set_option maxRecDepth 100000 in
theorem zu_4_0 : zk_4_0.all (zdB (zb 4)) = true := by decide +kernel
set_option maxRecDepth 100000 in
theorem zu_5_0 : zk_5_0.all (zdB (zb 5)) = true := by decide +kernel
set_option maxRecDepth 100000 in
theorem zu_6_0 : zk_6_0.all (zdB (zb 6)) = true := by decide +kernel
set_option maxRecDepth 100000 in
theorem zu_7_0 : zk_7_0.all (zdB (zb 7)) = true := by decide +kernel
set_option maxRecDepth 100000 in
theorem zu_8_0 : zk_8_0.all (zdB (zb 8)) = true := by decide +kernel
set_option maxRecDepth 100000 in
theorem zu_9_0 : zk_9_0.all (zdB (zb 9)) = true := by decide +kernel
set_option maxRecDepth 100000 in
theorem zu_10_0 : zk_10_0.all (zdB (zb 10)) = true := by decide +kernel
set_option maxRecDepth 100000 in
theorem zu_11_0 : zk_11_0.all (zdB (zb 11)) = true := by decide +kernel
set_option maxRecDepth 100000 in
theorem zu_12_0 : zk_12_0.all (zdB (zb 12)) = true := by decide +kernel
set_option maxRecDepth 100000 in
theorem zu_13_0 : zk_13_0.all (zdB (zb 13)) = true := by decide +kernel
set_option maxRecDepth 100000 in
theorem zu_14_0 : zk_14_0.all (zdB (zb 14)) = true := by decide +kernel
set_option maxRecDepth 100000 in
theorem zu_15_0 : zk_15_0.all (zdB (zb 15)) = true := by decide +kernel
set_option maxRecDepth 100000 in
theorem zu_16_0 : zk_16_0.all (zdB (zb 16)) = true := by decide +kernel
set_option maxRecDepth 100000 in
theorem zu_17_0 : zk_17_0.all (zdB (zb 17)) = true := by decide +kernel
set_option maxRecDepth 100000 in
theorem zu_18_0 : zk_18_0.all (zdB (zb 18)) = true := by decide +kernel
set_option maxRecDepth 100000 in
theorem zu_19_0 : zk_19_0.all (zdB (zb 19)) = true := by decide +kernel
set_option maxRecDepth 100000 in
theorem zu_20_0 : zk_20_0.all (zdB (zb 20)) = true := by decide +kernel
set_option maxRecDepth 100000 in
theorem zu_21_0 : zk_21_0.all (zdB (zb 21)) = true := by decide +kernel
set_option maxRecDepth 100000 in
theorem zu_22_0 : zk_22_0.all (zdB (zb 22)) = true := by decide +kernel
set_option maxRecDepth 100000 in
theorem zu_23_0 : zk_23_0.all (zdB (zb 23)) = true := by decide +kernel
set_option maxRecDepth 100000 in
theorem zu_24_0 : zk_24_0.all (zdB (zb 24)) = true := by decide +kernel
set_option maxRecDepth 100000 in
theorem zu_25_0 : zk_25_0.all (zdB (zb 25)) = true := by decide +kernel
set_option maxRecDepth 100000 in
theorem zu_26_0 : zk_26_0.all (zdB (zb 26)) = true := by decide +kernel
set_option maxRecDepth 100000 in
theorem zu_27_0 : zk_27_0.all (zdB (zb 27)) = true := by decide +kernel
set_option maxRecDepth 100000 in
theorem zu_28_0 : zk_28_0.all (zdB (zb 28)) = true := by decide +kernel
set_option maxRecDepth 100000 in
theorem zu_29_0 : zk_29_0.all (zdB (zb 29)) = true := by decide +kernel
set_option maxRecDepth 100000 in
theorem zu_30_0 : zk_30_0.all (zdB (zb 30)) = true := by decide +kernel
set_option maxRecDepth 100000 in
theorem zu_31_0 : zk_31_0.all (zdB (zb 31)) = true := by decide +kernel
set_option maxRecDepth 100000 in
theorem zu_32_0 : zk_32_0.all (zdB (zb 32)) = true := by decide +kernel
set_option maxRecDepth 100000 in
theorem zu_33_0 : zk_33_0.all (zdB (zb 33)) = true := by decide +kernel
set_option maxRecDepth 100000 in
theorem zu_34_0 : zk_34_0.all (zdB (zb 34)) = true := by decide +kernel
set_option maxRecDepth 100000 in
theorem zu_35_0 : zk_35_0.all (zdB (zb 35)) = true := by decide +kernel
set_option maxRecDepth 100000 in
theorem zu_36_0 : zk_36_0.all (zdB (zb 36)) = true := by decide +kernel
set_option maxRecDepth 100000 in
theorem zu_37_0 : zk_37_0.all (zdB (zb 37)) = true := by decide +kernel
set_option maxRecDepth 100000 in
theorem zu_38_0 : zk_38_0.all (zdB (zb 38)) = true := by decide +kernel
set_option maxRecDepth 100000 in
theorem zu_39_0 : zk_39_0.all (zdB (zb 39)) = true := by decide +kernel
set_option maxRecDepth 100000 in
theorem zu_40_0 : zk_40_0.all (zdB (zb 40)) = true := by decide +kernel
set_option maxRecDepth 100000 in
theorem zu_41_0 : zk_41_0.all (zdB (zb 41)) = true := by decide +kernel
set_option maxRecDepth 100000 in
theorem zu_42_0 : zk_42_0.all (zdB (zb 42)) = true := by decide +kernel
set_option maxRecDepth 100000 in
theorem zu_43_0 : zk_43_0.all (zdB (zb 43)) = true := by decide +kernel
set_option maxRecDepth 100000 in
theorem zu_44_0 : zk_44_0.all (zdB (zb 44)) = true := by decide +kernel
set_option maxRecDepth 100000 in
theorem zu_45_0 : zk_45_0.all (zdB (zb 45)) = true := by decide +kernel
set_option maxRecDepth 100000 in
theorem zu_46_0 : zk_46_0.all (zdB (zb 46)) = true := by decide +kernel
set_option maxRecDepth 100000 in
theorem zu_47_0 : zk_47_0.all (zdB (zb 47)) = true := by decide +kernel
set_option maxRecDepth 100000 in
theorem zu_48_0 : zk_48_0.all (zdB (zb 48)) = true := by decide +kernel
set_option maxRecDepth 100000 in
theorem zu_49_0 : zk_49_0.all (zdB (zb 49)) = true := by decide +kernel
set_option maxRecDepth 100000 in
theorem zu_50_0 : zk_50_0.all (zdB (zb 50)) = true := by decide +kernel
set_option maxRecDepth 100000 in
theorem zu_51_0 : zk_51_0.all (zdB (zb 51)) = true := by decide +kernel
set_option maxRecDepth 100000 in
theorem zu_52_0 : zk_52_0.all (zdB (zb 52)) = true := by decide +kernel
set_option maxRecDepth 100000 in
theorem zu_53_0 : zk_53_0.all (zdB (zb 53)) = true := by decide +kernel
set_option maxRecDepth 100000 in
theorem zu_54_0 : zk_54_0.all (zdB (zb 54)) = true := by decide +kernel
set_option maxRecDepth 100000 in
theorem zu_55_0 : zk_55_0.all (zdB (zb 55)) = true := by decide +kernel
set_option maxRecDepth 100000 in
theorem zu_56_0 : zk_56_0.all (zdB (zb 56)) = true := by decide +kernel
set_option maxRecDepth 100000 in
theorem zu_57_0 : zk_57_0.all (zdB (zb 57)) = true := by decide +kernel
set_option maxRecDepth 100000 in
theorem zu_58_0 : zk_58_0.all (zdB (zb 58)) = true := by decide +kernel
set_option maxRecDepth 100000 in
theorem zu_59_0 : zk_59_0.all (zdB (zb 59)) = true := by decide +kernel
set_option maxRecDepth 100000 in
theorem zu_60_0 : zk_60_0.all (zdB (zb 60)) = true := by decide +kernel
set_option maxRecDepth 100000 in
theorem zu_61_0 : zk_61_0.all (zdB (zb 61)) = true := by decide +kernel
set_option maxRecDepth 100000 in
theorem zu_62_0 : zk_62_0.all (zdB (zb 62)) = true := by decide +kernel
set_option maxRecDepth 100000 in
theorem zu_63_0 : zk_63_0.all (zdB (zb 63)) = true := by decide +kernel
set_option maxRecDepth 100000 in
theorem zu_64_0 : zk_64_0.all (zdB (zb 64)) = true := by decide +kernel
set_option maxRecDepth 100000 in
theorem zu_65_0 : zk_65_0.all (zdB (zb 65)) = true := by decide +kernel
set_option maxRecDepth 100000 in
theorem zu_66_0 : zk_66_0.all (zdB (zb 66)) = true := by decide +kernel
set_option maxRecDepth 100000 in
theorem zu_67_0 : zk_67_0.all (zdB (zb 67)) = true := by decide +kernel
set_option maxRecDepth 100000 in
theorem zu_68_0 : zk_68_0.all (zdB (zb 68)) = true := by decide +kernel
set_option maxRecDepth 100000 in
theorem zu_69_0 : zk_69_0.all (zdB (zb 69)) = true := by decide +kernel
set_option maxRecDepth 100000 in
theorem zu_70_0 : zk_70_0.all (zdB (zb 70)) = true := by decide +kernel
set_option maxRecDepth 100000 in
theorem zu_71_0 : zk_71_0.all (zdB (zb 71)) = true := by decide +kernel
set_option maxRecDepth 100000 in
theorem zu_72_0 : zk_72_0.all (zdB (zb 72)) = true := by decide +kernel
set_option maxRecDepth 100000 in
theorem zu_73_0 : zk_73_0.all (zdB (zb 73)) = true := by decide +kernel
set_option maxRecDepth 100000 in
theorem zu_74_0 : zk_74_0.all (zdB (zb 74)) = true := by decide +kernel
set_option maxRecDepth 100000 in
theorem zu_75_0 : zk_75_0.all (zdB (zb 75)) = true := by decide +kernel
set_option maxRecDepth 100000 in
theorem zu_76_0 : zk_76_0.all (zdB (zb 76)) = true := by decide +kernel
set_option maxRecDepth 100000 in
theorem zu_77_0 : zk_77_0.all (zdB (zb 77)) = true := by decide +kernel
set_option maxRecDepth 100000 in
theorem zu_78_0 : zk_78_0.all (zdB (zb 78)) = true := by decide +kernel
set_option maxRecDepth 100000 in
theorem zu_79_0 : zk_79_0.all (zdB (zb 79)) = true := by decide +kernel
set_option maxRecDepth 100000 in
theorem zu_80_0 : zk_80_0.all (zdB (zb 80)) = true := by decide +kernel
set_option maxRecDepth 100000 in
theorem zu_81_0 : zk_81_0.all (zdB (zb 81)) = true := by decide +kernel
set_option maxRecDepth 100000 in
theorem zu_82_0 : zk_82_0.all (zdB (zb 82)) = true := by decide +kernel
set_option maxRecDepth 100000 in
theorem zu_83_0 : zk_83_0.all (zdB (zb 83)) = true := by decide +kernel
set_option maxRecDepth 100000 in
theorem zu_84_0 : zk_84_0.all (zdB (zb 84)) = true := by decide +kernel
set_option maxRecDepth 100000 in
theorem zu_85_0 : zk_85_0.all (zdB (zb 85)) = true := by decide +kernel
set_option maxRecDepth 100000 in
theorem zu_86_0 : zk_86_0.all (zdB (zb 86)) = true := by decide +kernel
set_option maxRecDepth 100000 in
theorem zu_87_0 : zk_87_0.all (zdB (zb 87)) = true := by decide +kernel
set_option maxRecDepth 100000 in
theorem zu_88_0 : zk_88_0.all (zdB (zb 88)) = true := by decide +kernel
set_option maxRecDepth 100000 in
theorem zu_89_0 : zk_89_0.all (zdB (zb 89)) = true := by decide +kernel
set_option maxRecDepth 100000 in
theorem zu_89_1 : zk_89_1.all (zdB (zb 89)) = true := by decide +kernel
set_option maxRecDepth 100000 in
theorem zu_90_0 : zk_90_0.all (zdB (zb 90)) = true := by decide +kernel
set_option maxRecDepth 100000 in
theorem zu_91_0 : zk_91_0.all (zdB (zb 91)) = true := by decide +kernel
set_option maxRecDepth 100000 in
theorem zu_92_0 : zk_92_0.all (zdB (zb 92)) = true := by decide +kernel
set_option maxRecDepth 100000 in
theorem zu_93_0 : zk_93_0.all (zdB (zb 93)) = true := by decide +kernel
set_option maxRecDepth 100000 in
theorem zu_94_0 : zk_94_0.all (zdB (zb 94)) = true := by decide +kernel
set_option maxRecDepth 100000 in
theorem zu_95_0 : zk_95_0.all (zdB (zb 95)) = true := by decide +kernel
set_option maxRecDepth 100000 in
theorem zu_95_1 : zk_95_1.all (zdB (zb 95)) = true := by decide +kernel
set_option maxRecDepth 100000 in
theorem zu_96_0 : zk_96_0.all (zdB (zb 96)) = true := by decide +kernel
set_option maxRecDepth 100000 in
theorem zu_96_1 : zk_96_1.all (zdB (zb 96)) = true := by decide +kernel
set_option maxRecDepth 100000 in
theorem zu_97_0 : zk_97_0.all (zdB (zb 97)) = true := by decide +kernel
set_option maxRecDepth 100000 in
theorem zu_98_0 : zk_98_0.all (zdB (zb 98)) = true := by decide +kernel
set_option maxRecDepth 100000 in
theorem zu_99_0 : zk_99_0.all (zdB (zb 99)) = true := by decide +kernel
set_option maxRecDepth 100000 in
theorem zu_100_0 : zk_100_0.all (zdB (zb 100)) = true := by decide +kernel
set_option maxRecDepth 100000 in
theorem zu_101_0 : zk_101_0.all (zdB (zb 101)) = true := by decide +kernel
set_option maxRecDepth 100000 in
theorem zu_102_0 : zk_102_0.all (zdB (zb 102)) = true := by decide +kernel
set_option maxRecDepth 100000 in
theorem zu_103_0 : zk_103_0.all (zdB (zb 103)) = true := by decide +kernel
set_option maxRecDepth 100000 in
theorem zu_104_0 : zk_104_0.all (zdB (zb 104)) = true := by decide +kernel
set_option maxRecDepth 100000 in
theorem zu_105_0 : zk_105_0.all (zdB (zb 105)) = true := by decide +kernel
set_option maxRecDepth 100000 in
theorem zu_106_0 : zk_106_0.all (zdB (zb 106)) = true := by decide +kernel
set_option maxRecDepth 100000 in
theorem zu_107_0 : zk_107_0.all (zdB (zb 107)) = true := by decide +kernel
set_option maxRecDepth 100000 in
theorem zu_108_0 : zk_108_0.all (zdB (zb 108)) = true := by decide +kernel
set_option maxRecDepth 100000 in
theorem zu_109_0 : zk_109_0.all (zdB (zb 109)) = true := by decide +kernel
set_option maxRecDepth 100000 in
theorem zu_110_0 : zk_110_0.all (zdB (zb 110)) = true := by decide +kernel
set_option maxRecDepth 100000 in
theorem zu_111_0 : zk_111_0.all (zdB (zb 111)) = true := by decide +kernel
set_option maxRecDepth 100000 in
theorem zu_112_0 : zk_112_0.all (zdB (zb 112)) = true := by decide +kernel
set_option maxRecDepth 100000 in
theorem zu_113_0 : zk_113_0.all (zdB (zb 113)) = true := by decide +kernel
set_option maxRecDepth 100000 in
theorem zu_114_0 : zk_114_0.all (zdB (zb 114)) = true := by decide +kernel
set_option maxRecDepth 100000 in
theorem zu_115_0 : zk_115_0.all (zdB (zb 115)) = true := by decide +kernel
set_option maxRecDepth 100000 in
theorem zu_116_0 : zk_116_0.all (zdB (zb 116)) = true := by decide +kernel
set_option maxRecDepth 100000 in
theorem zu_117_0 : zk_117_0.all (zdB (zb 117)) = true := by decide +kernel
set_option maxRecDepth 100000 in
theorem zu_118_0 : zk_118_0.all (zdB (zb 118)) = true := by decide +kernel
set_option maxRecDepth 100000 in
theorem zu_119_0 : zk_119_0.all (zdB (zb 119)) = true := by decide +kernel
set_option maxRecDepth 100000 in
theorem zu_120_0 : zk_120_0.all (zdB (zb 120)) = true := by decide +kernel
set_option maxRecDepth 100000 in
theorem zu_120_1 : zk_120_1.all (zdB (zb 120)) = true := by decide +kernel
set_option maxRecDepth 100000 in
theorem zu_120_2 : zk_120_2.all (zdB (zb 120)) = true := by decide +kernel
set_option maxRecDepth 100000 in
theorem zu_120_3 : zk_120_3.all (zdB (zb 120)) = true := by decide +kernel
set_option maxRecDepth 100000 in
theorem zu_120_4 : zk_120_4.all (zdB (zb 120)) = true := by decide +kernel
set_option maxRecDepth 100000 in
theorem zu_120_5 : zk_120_5.all (zdB (zb 120)) = true := by decide +kernel
theorem zu_0 : zk_0.all (zdB (zb 0)) = true := zu_0_0
theorem zu_1 : zk_1.all (zdB (zb 1)) = true := zu_1_0
theorem zu_2 : zk_2.all (zdB (zb 2)) = true := zu_2_0
theorem zu_3 : zk_3.all (zdB (zb 3)) = true := zu_3_0
theorem zu_4 : zk_4.all (zdB (zb 4)) = true := zu_4_0
theorem zu_5 : zk_5.all (zdB (zb 5)) = true := zu_5_0
theorem zu_6 : zk_6.all (zdB (zb 6)) = true := zu_6_0
theorem zu_7 : zk_7.all (zdB (zb 7)) = true := zu_7_0
theorem zu_8 : zk_8.all (zdB (zb 8)) = true := zu_8_0
theorem zu_9 : zk_9.all (zdB (zb 9)) = true := zu_9_0
theorem zu_10 : zk_10.all (zdB (zb 10)) = true := zu_10_0
theorem zu_11 : zk_11.all (zdB (zb 11)) = true := zu_11_0
theorem zu_12 : zk_12.all (zdB (zb 12)) = true := zu_12_0
theorem zu_13 : zk_13.all (zdB (zb 13)) = true := zu_13_0
theorem zu_14 : zk_14.all (zdB (zb 14)) = true := zu_14_0
theorem zu_15 : zk_15.all (zdB (zb 15)) = true := zu_15_0
theorem zu_16 : zk_16.all (zdB (zb 16)) = true := zu_16_0
theorem zu_17 : zk_17.all (zdB (zb 17)) = true := zu_17_0
theorem zu_18 : zk_18.all (zdB (zb 18)) = true := zu_18_0
theorem zu_19 : zk_19.all (zdB (zb 19)) = true := zu_19_0
theorem zu_20 : zk_20.all (zdB (zb 20)) = true := zu_20_0
theorem zu_21 : zk_21.all (zdB (zb 21)) = true := zu_21_0
theorem zu_22 : zk_22.all (zdB (zb 22)) = true := zu_22_0
theorem zu_23 : zk_23.all (zdB (zb 23)) = true := zu_23_0
theorem zu_24 : zk_24.all (zdB (zb 24)) = true := zu_24_0
theorem zu_25 : zk_25.all (zdB (zb 25)) = true := zu_25_0
theorem zu_26 : zk_26.all (zdB (zb 26)) = true := zu_26_0
theorem zu_27 : zk_27.all (zdB (zb 27)) = true := zu_27_0
theorem zu_28 : zk_28.all (zdB (zb 28)) = true := zu_28_0
theorem zu_29 : zk_29.all (zdB (zb 29)) = true := zu_29_0
theorem zu_30 : zk_30.all (zdB (zb 30)) = true := zu_30_0
theorem zu_31 : zk_31.all (zdB (zb 31)) = true := zu_31_0
theorem zu_32 : zk_32.all (zdB (zb 32)) = true := zu_32_0
theorem zu_33 : zk_33.all (zdB (zb 33)) = true := zu_33_0
theorem zu_34 : zk_34.all (zdB (zb 34)) = true := zu_34_0
theorem zu_35 : zk_35.all (zdB (zb 35)) = true := zu_35_0
theorem zu_36 : zk_36.all (zdB (zb 36)) = true := zu_36_0
theorem zu_37 : zk_37.all (zdB (zb 37)) = true := zu_37_0
theorem zu_38 : zk_38.all (zdB (zb 38)) = true := zu_38_0
theorem zu_39 : zk_39.all (zdB (zb 39)) = true := zu_39_0
theorem zu_40 : zk_40.all (zdB (zb 40)) = true := zu_40_0
theorem zu_41 : zk_41.all (zdB (zb 41)) = true := zu_41_0
theorem zu_42 : zk_42.all (zdB (zb 42)) = true := zu_42_0
theorem zu_43 : zk_43.all (zdB (zb 43)) = true := zu_43_0
theorem zu_44 : zk_44.all (zdB (zb 44)) = true := zu_44_0
theorem zu_45 : zk_45.all (zdB (zb 45)) = true := zu_45_0
theorem zu_46 : zk_46.all (zdB (zb 46)) = true := zu_46_0
theorem zu_47 : zk_47.all (zdB (zb 47)) = true := zu_47_0
theorem zu_48 : zk_48.all (zdB (zb 48)) = true := zu_48_0
theorem zu_49 : zk_49.all (zdB (zb 49)) = true := zu_49_0
theorem zu_50 : zk_50.all (zdB (zb 50)) = true := zu_50_0
theorem zu_51 : zk_51.all (zdB (zb 51)) = true := zu_51_0
theorem zu_52 : zk_52.all (zdB (zb 52)) = true := zu_52_0
theorem zu_53 : zk_53.all (zdB (zb 53)) = true := zu_53_0
theorem zu_54 : zk_54.all (zdB (zb 54)) = true := zu_54_0
theorem zu_55 : zk_55.all (zdB (zb 55)) = true := zu_55_0
theorem zu_56 : zk_56.all (zdB (zb 56)) = true := zu_56_0
theorem zu_57 : zk_57.all (zdB (zb 57)) = true := zu_57_0
theorem zu_58 : zk_58.all (zdB (zb 58)) = true := zu_58_0
theorem zu_59 : zk_59.all (zdB (zb 59)) = true := zu_59_0
theorem zu_60 : zk_60.all (zdB (zb 60)) = true := zu_60_0
theorem zu_61 : zk_61.all (zdB (zb 61)) = true := zu_61_0
theorem zu_62 : zk_62.all (zdB (zb 62)) = true := zu_62_0
theorem zu_63 : zk_63.all (zdB (zb 63)) = true := zu_63_0
theorem zu_64 : zk_64.all (zdB (zb 64)) = true := zu_64_0
theorem zu_65 : zk_65.all (zdB (zb 65)) = true := zu_65_0
theorem zu_66 : zk_66.all (zdB (zb 66)) = true := zu_66_0
theorem zu_67 : zk_67.all (zdB (zb 67)) = true := zu_67_0
theorem zu_68 : zk_68.all (zdB (zb 68)) = true := zu_68_0
theorem zu_69 : zk_69.all (zdB (zb 69)) = true := zu_69_0
theorem zu_70 : zk_70.all (zdB (zb 70)) = true := zu_70_0
theorem zu_71 : zk_71.all (zdB (zb 71)) = true := zu_71_0
theorem zu_72 : zk_72.all (zdB (zb 72)) = true := zu_72_0
theorem zu_73 : zk_73.all (zdB (zb 73)) = true := zu_73_0
theorem zu_74 : zk_74.all (zdB (zb 74)) = true := zu_74_0
theorem zu_75 : zk_75.all (zdB (zb 75)) = true := zu_75_0
theorem zu_76 : zk_76.all (zdB (zb 76)) = true := zu_76_0
theorem zu_77 : zk_77.all (zdB (zb 77)) = true := zu_77_0
theorem zu_78 : zk_78.all (zdB (zb 78)) = true := zu_78_0
theorem zu_79 : zk_79.all (zdB (zb 79)) = true := zu_79_0
theorem zu_80 : zk_80.all (zdB (zb 80)) = true := zu_80_0
theorem zu_81 : zk_81.all (zdB (zb 81)) = true := zu_81_0
theorem zu_82 : zk_82.all (zdB (zb 82)) = true := zu_82_0
theorem zu_83 : zk_83.all (zdB (zb 83)) = true := zu_83_0
theorem zu_84 : zk_84.all (zdB (zb 84)) = true := zu_84_0
theorem zu_85 : zk_85.all (zdB (zb 85)) = true := zu_85_0
theorem zu_86 : zk_86.all (zdB (zb 86)) = true := zu_86_0
theorem zu_87 : zk_87.all (zdB (zb 87)) = true := zu_87_0
theorem zu_88 : zk_88.all (zdB (zb 88)) = true := zu_88_0
theorem zu_89 : zk_89.all (zdB (zb 89)) = true := (zau zu_89_0 zu_89_1)
theorem zu_90 : zk_90.all (zdB (zb 90)) = true := zu_90_0
theorem zu_91 : zk_91.all (zdB (zb 91)) = true := zu_91_0
theorem zu_92 : zk_92.all (zdB (zb 92)) = true := zu_92_0
theorem zu_93 : zk_93.all (zdB (zb 93)) = true := zu_93_0
theorem zu_94 : zk_94.all (zdB (zb 94)) = true := zu_94_0
theorem zu_95 : zk_95.all (zdB (zb 95)) = true := (zau zu_95_0 zu_95_1)
theorem zu_96 : zk_96.all (zdB (zb 96)) = true := (zau zu_96_0 zu_96_1)
theorem zu_97 : zk_97.all (zdB (zb 97)) = true := zu_97_0
theorem zu_98 : zk_98.all (zdB (zb 98)) = true := zu_98_0
theorem zu_99 : zk_99.all (zdB (zb 99)) = true := zu_99_0
theorem zu_100 : zk_100.all (zdB (zb 100)) = true := zu_100_0
theorem zu_101 : zk_101.all (zdB (zb 101)) = true := zu_101_0
theorem zu_102 : zk_102.all (zdB (zb 102)) = true := zu_102_0
theorem zu_103 : zk_103.all (zdB (zb 103)) = true := zu_103_0
theorem zu_104 : zk_104.all (zdB (zb 104)) = true := zu_104_0
theorem zu_105 : zk_105.all (zdB (zb 105)) = true := zu_105_0
theorem zu_106 : zk_106.all (zdB (zb 106)) = true := zu_106_0
theorem zu_107 : zk_107.all (zdB (zb 107)) = true := zu_107_0
theorem zu_108 : zk_108.all (zdB (zb 108)) = true := zu_108_0
theorem zu_109 : zk_109.all (zdB (zb 109)) = true := zu_109_0
theorem zu_110 : zk_110.all (zdB (zb 110)) = true := zu_110_0
theorem zu_111 : zk_111.all (zdB (zb 111)) = true := zu_111_0
theorem zu_112 : zk_112.all (zdB (zb 112)) = true := zu_112_0
theorem zu_113 : zk_113.all (zdB (zb 113)) = true := zu_113_0
theorem zu_114 : zk_114.all (zdB (zb 114)) = true := zu_114_0
theorem zu_115 : zk_115.all (zdB (zb 115)) = true := zu_115_0
theorem zu_116 : zk_116.all (zdB (zb 116)) = true := zu_116_0
theorem zu_117 : zk_117.all (zdB (zb 117)) = true := zu_117_0
theorem zu_118 : zk_118.all (zdB (zb 118)) = true := zu_118_0
theorem zu_119 : zk_119.all (zdB (zb 119)) = true := zu_119_0
theorem zu_120 : zk_120.all (zdB (zb 120)) = true := (zau (zau (zau (zau (zau zu_120_0 zu_120_1) zu_120_2) zu_120_3) zu_120_4) zu_120_5)
