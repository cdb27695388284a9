section
set_option maxRecDepth 100000
/-! the tables' words, by their places; what the tables say of fields, calls, makings and constants -/
def zTb : List Cond := lw_tbl.filter goodWord
theorem zTb_in {i : Nat} {w : Cond} (h : lw_tbl[i]? = some w) (g : goodWord w = true) : w ∈ zTb := List.mem_filter.mpr ⟨List.mem_of_getElem? h, g⟩
theorem zTb_good : ∀ w ∈ zTb, w ∈ lw_tbl ∧ goodWord w = true := fun w h => List.mem_filter.mp h
def zFw (q : (Nat × Nat) × (Nat × Nat) × Nat) : Cond := .fieldLink (zOn q.1.1) q.1.2 (zTT q.2.1.1 q.2.1.2).1 (zTT q.2.1.1 q.2.1.2).2.1 (zTT q.2.1.1 q.2.1.2).2.2.1
def zFchk (q : (Nat × Nat) × (Nat × Nat) × Nat) : Bool := decide (lw_tbl[q.2.2]? = some (zFw q)) && decide (q.2.1.2 < zNF q.2.1.1) && decide (q.2.1.1 < 7)
theorem zFt_ok : ∀ q ∈ zFt, zFchk q = true := List.all_eq_true.mp (by decide +kernel)
def zfld (o i : Nat) : Option ((Nat × Nat) × Nat) := (zFt.find? (fun q => q.1.1 == o && q.1.2 == i)).map (fun q => q.2)
/-- a call's words -/
def zLk (o i : Nat) (k y : Nat) : Cond := if k = 3 then .methodLinkNest (zOn o) i (zname y) "StrawDraws" else .methodLink (zOn o) i (zname y)
def zCside (k y : Nat) : Cond := if k = 1 then .static (zname y) else .instanceMethod (zname y)
def zplain (s : String) : Bool := decide (s ≠ "java/lang/invoke/MethodHandle") && decide (s ≠ "java/lang/invoke/VarHandle")
theorem zy_0 : lw_tbl[146]? = some (.code (zname 0) (zcode 0) (zmaxL 0) (zret 0)) := by rfl
theorem zy_1 : lw_tbl[260]? = some (.code (zname 1) (zcode 1) (zmaxL 1) (zret 1)) := by rfl
theorem zy_2 : lw_tbl[337]? = some (.code (zname 2) (zcode 2) (zmaxL 2) (zret 2)) := by rfl
theorem zy_3 : lw_tbl[573]? = some (.code (zname 3) (zcode 3) (zmaxL 3) (zret 3)) := by rfl
theorem zy_4 : lw_tbl[210]? = some (.code (zname 4) (zcode 4) (zmaxL 4) (zret 4)) := by rfl
theorem zy_5 : lw_tbl[283]? = some (.code (zname 5) (zcode 5) (zmaxL 5) (zret 5)) := by rfl
theorem zy_6 : lw_tbl[318]? = some (.code (zname 6) (zcode 6) (zmaxL 6) (zret 6)) := by rfl
theorem zy_7 : lw_tbl[441]? = some (.code (zname 7) (zcode 7) (zmaxL 7) (zret 7)) := by rfl
theorem zy_8 : lw_tbl[322]? = some (.code (zname 8) (zcode 8) (zmaxL 8) (zret 8)) := by rfl
theorem zy_9 : lw_tbl[437]? = some (.code (zname 9) (zcode 9) (zmaxL 9) (zret 9)) := by rfl
theorem zy_10 : lw_tbl[471]? = some (.code (zname 10) (zcode 10) (zmaxL 10) (zret 10)) := by rfl
theorem zy_11 : lw_tbl[179]? = some (.code (zname 11) (zcode 11) (zmaxL 11) (zret 11)) := by rfl
theorem zy_12 : lw_tbl[512]? = some (.code (zname 12) (zcode 12) (zmaxL 12) (zret 12)) := by rfl
theorem zy_13 : lw_tbl[519]? = some (.code (zname 13) (zcode 13) (zmaxL 13) (zret 13)) := by rfl
theorem zy_14 : lw_tbl[531]? = some (.code (zname 14) (zcode 14) (zmaxL 14) (zret 14)) := by rfl
theorem zy_15 : lw_tbl[535]? = some (.code (zname 15) (zcode 15) (zmaxL 15) (zret 15)) := by rfl
theorem zy_16 : lw_tbl[547]? = some (.code (zname 16) (zcode 16) (zmaxL 16) (zret 16)) := by rfl
theorem zy_17 : lw_tbl[555]? = some (.code (zname 17) (zcode 17) (zmaxL 17) (zret 17)) := by rfl
theorem zy_18 : lw_tbl[539]? = some (.code (zname 18) (zcode 18) (zmaxL 18) (zret 18)) := by rfl
theorem zy_19 : lw_tbl[551]? = some (.code (zname 19) (zcode 19) (zmaxL 19) (zret 19)) := by rfl
theorem zy_20 : lw_tbl[543]? = some (.code (zname 20) (zcode 20) (zmaxL 20) (zret 20)) := by rfl
theorem zy_21 : lw_tbl[80]? = some (.code (zname 21) (zcode 21) (zmaxL 21) (zret 21)) := by rfl
theorem zy_22 : lw_tbl[264]? = some (.code (zname 22) (zcode 22) (zmaxL 22) (zret 22)) := by rfl
theorem zy_23 : lw_tbl[367]? = some (.code (zname 23) (zcode 23) (zmaxL 23) (zret 23)) := by rfl
theorem zy_24 : lw_tbl[294]? = some (.code (zname 24) (zcode 24) (zmaxL 24) (zret 24)) := by rfl
theorem zy_25 : lw_tbl[475]? = some (.code (zname 25) (zcode 25) (zmaxL 25) (zret 25)) := by rfl
theorem zy_26 : lw_tbl[427]? = some (.code (zname 26) (zcode 26) (zmaxL 26) (zret 26)) := by rfl
theorem zy_27 : lw_tbl[445]? = some (.code (zname 27) (zcode 27) (zmaxL 27) (zret 27)) := by rfl
theorem zy_28 : lw_tbl[395]? = some (.code (zname 28) (zcode 28) (zmaxL 28) (zret 28)) := by rfl
theorem zy_29 : lw_tbl[399]? = some (.code (zname 29) (zcode 29) (zmaxL 29) (zret 29)) := by rfl
theorem zy_30 : lw_tbl[411]? = some (.code (zname 30) (zcode 30) (zmaxL 30) (zret 30)) := by rfl
theorem zy_31 : lw_tbl[326]? = some (.code (zname 31) (zcode 31) (zmaxL 31) (zret 31)) := by rfl
theorem zy_32 : lw_tbl[329]? = some (.code (zname 32) (zcode 32) (zmaxL 32) (zret 32)) := by rfl
theorem zy_33 : lw_tbl[166]? = some (.code (zname 33) (zcode 33) (zmaxL 33) (zret 33)) := by rfl
theorem zy_34 : lw_tbl[290]? = some (.code (zname 34) (zcode 34) (zmaxL 34) (zret 34)) := by rfl
theorem zy_35 : lw_tbl[310]? = some (.code (zname 35) (zcode 35) (zmaxL 35) (zret 35)) := by rfl
theorem zy_36 : lw_tbl[314]? = some (.code (zname 36) (zcode 36) (zmaxL 36) (zret 36)) := by rfl
theorem zy_37 : lw_tbl[297]? = some (.code (zname 37) (zcode 37) (zmaxL 37) (zret 37)) := by rfl
theorem zy_38 : lw_tbl[300]? = some (.code (zname 38) (zcode 38) (zmaxL 38) (zret 38)) := by rfl
theorem zy_39 : lw_tbl[72]? = some (.code (zname 39) (zcode 39) (zmaxL 39) (zret 39)) := by rfl
theorem zy_40 : lw_tbl[256]? = some (.code (zname 40) (zcode 40) (zmaxL 40) (zret 40)) := by rfl
theorem zy_41 : lw_tbl[341]? = some (.code (zname 41) (zcode 41) (zmaxL 41) (zret 41)) := by rfl
theorem zy_42 : lw_tbl[355]? = some (.code (zname 42) (zcode 42) (zmaxL 42) (zret 42)) := by rfl
theorem zy_43 : lw_tbl[371]? = some (.code (zname 43) (zcode 43) (zmaxL 43) (zret 43)) := by rfl
theorem zy_44 : lw_tbl[379]? = some (.code (zname 44) (zcode 44) (zmaxL 44) (zret 44)) := by rfl
theorem zy_45 : lw_tbl[387]? = some (.code (zname 45) (zcode 45) (zmaxL 45) (zret 45)) := by rfl
theorem zy_46 : lw_tbl[403]? = some (.code (zname 46) (zcode 46) (zmaxL 46) (zret 46)) := by rfl
theorem zy_47 : lw_tbl[415]? = some (.code (zname 47) (zcode 47) (zmaxL 47) (zret 47)) := by rfl
theorem zy_48 : lw_tbl[423]? = some (.code (zname 48) (zcode 48) (zmaxL 48) (zret 48)) := by rfl
theorem zy_49 : lw_tbl[449]? = some (.code (zname 49) (zcode 49) (zmaxL 49) (zret 49)) := by rfl
theorem zy_50 : lw_tbl[454]? = some (.code (zname 50) (zcode 50) (zmaxL 50) (zret 50)) := by rfl
theorem zy_51 : lw_tbl[459]? = some (.code (zname 51) (zcode 51) (zmaxL 51) (zret 51)) := by rfl
theorem zy_52 : lw_tbl[463]? = some (.code (zname 52) (zcode 52) (zmaxL 52) (zret 52)) := by rfl
theorem zy_53 : lw_tbl[467]? = some (.code (zname 53) (zcode 53) (zmaxL 53) (zret 53)) := by rfl
theorem zy_54 : lw_tbl[483]? = some (.code (zname 54) (zcode 54) (zmaxL 54) (zret 54)) := by rfl
theorem zy_55 : lw_tbl[494]? = some (.code (zname 55) (zcode 55) (zmaxL 55) (zret 55)) := by rfl
theorem zy_56 : lw_tbl[498]? = some (.code (zname 56) (zcode 56) (zmaxL 56) (zret 56)) := by rfl
theorem zy_57 : lw_tbl[509]? = some (.code (zname 57) (zcode 57) (zmaxL 57) (zret 57)) := by rfl
theorem zy_58 : lw_tbl[523]? = some (.code (zname 58) (zcode 58) (zmaxL 58) (zret 58)) := by rfl
theorem zy_59 : lw_tbl[527]? = some (.code (zname 59) (zcode 59) (zmaxL 59) (zret 59)) := by rfl
theorem zy_60 : lw_tbl[559]? = some (.code (zname 60) (zcode 60) (zmaxL 60) (zret 60)) := by rfl
theorem zy_61 : lw_tbl[569]? = some (.code (zname 61) (zcode 61) (zmaxL 61) (zret 61)) := by rfl
theorem zy_62 : lw_tbl[577]? = some (.code (zname 62) (zcode 62) (zmaxL 62) (zret 62)) := by rfl
theorem zy_63 : lw_tbl[582]? = some (.code (zname 63) (zcode 63) (zmaxL 63) (zret 63)) := by rfl
theorem zy_64 : lw_tbl[271]? = some (.code (zname 64) (zcode 64) (zmaxL 64) (zret 64)) := by rfl
theorem zy_65 : lw_tbl[345]? = some (.code (zname 65) (zcode 65) (zmaxL 65) (zret 65)) := by rfl
theorem zy_66 : lw_tbl[359]? = some (.code (zname 66) (zcode 66) (zmaxL 66) (zret 66)) := by rfl
theorem zy_67 : lw_tbl[375]? = some (.code (zname 67) (zcode 67) (zmaxL 67) (zret 67)) := by rfl
theorem zy_68 : lw_tbl[383]? = some (.code (zname 68) (zcode 68) (zmaxL 68) (zret 68)) := by rfl
theorem zy_69 : lw_tbl[391]? = some (.code (zname 69) (zcode 69) (zmaxL 69) (zret 69)) := by rfl
theorem zy_70 : lw_tbl[407]? = some (.code (zname 70) (zcode 70) (zmaxL 70) (zret 70)) := by rfl
theorem zy_71 : lw_tbl[419]? = some (.code (zname 71) (zcode 71) (zmaxL 71) (zret 71)) := by rfl
theorem zy_72 : lw_tbl[564]? = some (.code (zname 72) (zcode 72) (zmaxL 72) (zret 72)) := by rfl
theorem zy_73 : lw_tbl[333]? = some (.code (zname 73) (zcode 73) (zmaxL 73) (zret 73)) := by rfl
theorem zy_74 : lw_tbl[363]? = some (.code (zname 74) (zcode 74) (zmaxL 74) (zret 74)) := by rfl
theorem zy_75 : lw_tbl[351]? = some (.code (zname 75) (zcode 75) (zmaxL 75) (zret 75)) := by rfl
theorem zy_76 : lw_tbl[348]? = some (.code (zname 76) (zcode 76) (zmaxL 76) (zret 76)) := by rfl
theorem zy_77 : lw_tbl[279]? = some (.code (zname 77) (zcode 77) (zmaxL 77) (zret 77)) := by rfl
theorem zy_78 : lw_tbl[275]? = some (.code (zname 78) (zcode 78) (zmaxL 78) (zret 78)) := by rfl
theorem zy_79 : lw_tbl[432]? = some (.code (zname 79) (zcode 79) (zmaxL 79) (zret 79)) := by rfl
theorem zy_80 : lw_tbl[502]? = some (.code (zname 80) (zcode 80) (zmaxL 80) (zret 80)) := by rfl
theorem zy_81 : lw_tbl[479]? = some (.code (zname 81) (zcode 81) (zmaxL 81) (zret 81)) := by rfl
theorem zy_82 : lw_tbl[587]? = some (.code (zname 82) (zcode 82) (zmaxL 82) (zret 82)) := by rfl
theorem zy_83 : lw_tbl[668]? = some (.code (zname 83) (zcode 83) (zmaxL 83) (zret 83)) := by rfl
theorem zy_84 : lw_tbl[660]? = some (.code (zname 84) (zcode 84) (zmaxL 84) (zret 84)) := by rfl
theorem zy_85 : lw_tbl[855]? = some (.code (zname 85) (zcode 85) (zmaxL 85) (zret 85)) := by rfl
theorem zy_86 : lw_tbl[718]? = some (.code (zname 86) (zcode 86) (zmaxL 86) (zret 86)) := by rfl
theorem zy_87 : lw_tbl[746]? = some (.code (zname 87) (zcode 87) (zmaxL 87) (zret 87)) := by rfl
theorem zy_88 : lw_tbl[729]? = some (.code (zname 88) (zcode 88) (zmaxL 88) (zret 88)) := by rfl
theorem zy_89 : lw_tbl[733]? = some (.code (zname 89) (zcode 89) (zmaxL 89) (zret 89)) := by rfl
theorem zy_90 : lw_tbl[773]? = some (.code (zname 90) (zcode 90) (zmaxL 90) (zret 90)) := by rfl
theorem zy_91 : lw_tbl[689]? = some (.code (zname 91) (zcode 91) (zmaxL 91) (zret 91)) := by rfl
theorem zy_92 : lw_tbl[697]? = some (.code (zname 92) (zcode 92) (zmaxL 92) (zret 92)) := by rfl
theorem zy_93 : lw_tbl[693]? = some (.code (zname 93) (zcode 93) (zmaxL 93) (zret 93)) := by rfl
theorem zy_94 : lw_tbl[778]? = some (.code (zname 94) (zcode 94) (zmaxL 94) (zret 94)) := by rfl
theorem zy_95 : lw_tbl[707]? = some (.code (zname 95) (zcode 95) (zmaxL 95) (zret 95)) := by rfl
theorem zy_96 : lw_tbl[685]? = some (.code (zname 96) (zcode 96) (zmaxL 96) (zret 96)) := by rfl
theorem zy_97 : lw_tbl[681]? = some (.code (zname 97) (zcode 97) (zmaxL 97) (zret 97)) := by rfl
theorem zy_98 : lw_tbl[677]? = some (.code (zname 98) (zcode 98) (zmaxL 98) (zret 98)) := by rfl
theorem zy_99 : lw_tbl[673]? = some (.code (zname 99) (zcode 99) (zmaxL 99) (zret 99)) := by rfl
theorem zy_100 : lw_tbl[714]? = some (.code (zname 100) (zcode 100) (zmaxL 100) (zret 100)) := by rfl
theorem zy_101 : lw_tbl[711]? = some (.code (zname 101) (zcode 101) (zmaxL 101) (zret 101)) := by rfl
theorem zy_102 : lw_tbl[664]? = some (.code (zname 102) (zcode 102) (zmaxL 102) (zret 102)) := by rfl
theorem zy_103 : lw_tbl[726]? = some (.code (zname 103) (zcode 103) (zmaxL 103) (zret 103)) := by rfl
theorem zy_104 : lw_tbl[742]? = some (.code (zname 104) (zcode 104) (zmaxL 104) (zret 104)) := by rfl
theorem zy_105 : lw_tbl[754]? = some (.code (zname 105) (zcode 105) (zmaxL 105) (zret 105)) := by rfl
theorem zy_106 : lw_tbl[762]? = some (.code (zname 106) (zcode 106) (zmaxL 106) (zret 106)) := by rfl
theorem zy_107 : lw_tbl[770]? = some (.code (zname 107) (zcode 107) (zmaxL 107) (zret 107)) := by rfl
theorem zy_108 : lw_tbl[786]? = some (.code (zname 108) (zcode 108) (zmaxL 108) (zret 108)) := by rfl
theorem zy_109 : lw_tbl[794]? = some (.code (zname 109) (zcode 109) (zmaxL 109) (zret 109)) := by rfl
theorem zy_110 : lw_tbl[656]? = some (.code (zname 110) (zcode 110) (zmaxL 110) (zret 110)) := by rfl
theorem zy_111 : lw_tbl[722]? = some (.code (zname 111) (zcode 111) (zmaxL 111) (zret 111)) := by rfl
theorem zy_112 : lw_tbl[738]? = some (.code (zname 112) (zcode 112) (zmaxL 112) (zret 112)) := by rfl
theorem zy_113 : lw_tbl[750]? = some (.code (zname 113) (zcode 113) (zmaxL 113) (zret 113)) := by rfl
theorem zy_114 : lw_tbl[758]? = some (.code (zname 114) (zcode 114) (zmaxL 114) (zret 114)) := by rfl
theorem zy_115 : lw_tbl[766]? = some (.code (zname 115) (zcode 115) (zmaxL 115) (zret 115)) := by rfl
theorem zy_116 : lw_tbl[782]? = some (.code (zname 116) (zcode 116) (zmaxL 116) (zret 116)) := by rfl
theorem zy_117 : lw_tbl[790]? = some (.code (zname 117) (zcode 117) (zmaxL 117) (zret 117)) := by rfl
theorem zy_118 : lw_tbl[802]? = some (.code (zname 118) (zcode 118) (zmaxL 118) (zret 118)) := by rfl
theorem zy_119 : lw_tbl[810]? = some (.code (zname 119) (zcode 119) (zmaxL 119) (zret 119)) := by rfl
theorem zy_120 : lw_tbl[806]? = some (.code (zname 120) (zcode 120) (zmaxL 120) (zret 120)) := by rfl
theorem zy_121 : lw_tbl[814]? = some (.code (zname 121) (zcode 121) (zmaxL 121) (zret 121)) := by rfl
theorem zy_122 : lw_tbl[798]? = some (.code (zname 122) (zcode 122) (zmaxL 122) (zret 122)) := by rfl
theorem zy_123 : lw_tbl[818]? = some (.code (zname 123) (zcode 123) (zmaxL 123) (zret 123)) := by rfl
theorem zy_124 : lw_tbl[822]? = some (.code (zname 124) (zcode 124) (zmaxL 124) (zret 124)) := by rfl
theorem zy_125 : lw_tbl[826]? = some (.code (zname 125) (zcode 125) (zmaxL 125) (zret 125)) := by rfl
theorem zy_126 : lw_tbl[831]? = some (.code (zname 126) (zcode 126) (zmaxL 126) (zret 126)) := by rfl
theorem zy_127 : lw_tbl[839]? = some (.code (zname 127) (zcode 127) (zmaxL 127) (zret 127)) := by rfl
theorem zy_128 : lw_tbl[847]? = some (.code (zname 128) (zcode 128) (zmaxL 128) (zret 128)) := by rfl
theorem zy_129 : lw_tbl[843]? = some (.code (zname 129) (zcode 129) (zmaxL 129) (zret 129)) := by rfl
theorem zy_130 : lw_tbl[835]? = some (.code (zname 130) (zcode 130) (zmaxL 130) (zret 130)) := by rfl
theorem zy_131 : lw_tbl[851]? = some (.code (zname 131) (zcode 131) (zmaxL 131) (zret 131)) := by rfl
theorem zy_132 : lw_tbl[859]? = some (.code (zname 132) (zcode 132) (zmaxL 132) (zret 132)) := by rfl
theorem zy_133 : lw_tbl[867]? = some (.code (zname 133) (zcode 133) (zmaxL 133) (zret 133)) := by rfl
theorem zy_134 : lw_tbl[863]? = some (.code (zname 134) (zcode 134) (zmaxL 134) (zret 134)) := by rfl
theorem zy_135 : lw_tbl[871]? = some (.code (zname 135) (zcode 135) (zmaxL 135) (zret 135)) := by rfl
theorem zy_136 : lw_tbl[878]? = some (.code (zname 136) (zcode 136) (zmaxL 136) (zret 136)) := by rfl
theorem zy_137 : lw_tbl[897]? = some (.code (zname 137) (zcode 137) (zmaxL 137) (zret 137)) := by rfl
theorem zy_138 : lw_tbl[905]? = some (.code (zname 138) (zcode 138) (zmaxL 138) (zret 138)) := by rfl
theorem zy_139 : lw_tbl[893]? = some (.code (zname 139) (zcode 139) (zmaxL 139) (zret 139)) := by rfl
theorem zy_140 : lw_tbl[889]? = some (.code (zname 140) (zcode 140) (zmaxL 140) (zret 140)) := by rfl
theorem zy_141 : lw_tbl[901]? = some (.code (zname 141) (zcode 141) (zmaxL 141) (zret 141)) := by rfl
theorem zy_142 : lw_tbl[886]? = some (.code (zname 142) (zcode 142) (zmaxL 142) (zret 142)) := by rfl
theorem zy_143 : lw_tbl[882]? = some (.code (zname 143) (zcode 143) (zmaxL 143) (zret 143)) := by rfl
theorem zy_144 : lw_tbl[914]? = some (.code (zname 144) (zcode 144) (zmaxL 144) (zret 144)) := by rfl
theorem zy_145 : lw_tbl[909]? = some (.code (zname 145) (zcode 145) (zmaxL 145) (zret 145)) := by rfl
theorem zy_146 : lw_tbl[918]? = some (.code (zname 146) (zcode 146) (zmaxL 146) (zret 146)) := by rfl
theorem zy_147 : lw_tbl[922]? = some (.code (zname 147) (zcode 147) (zmaxL 147) (zret 147)) := by rfl
theorem zy_148 : lw_tbl[926]? = some (.code (zname 148) (zcode 148) (zmaxL 148) (zret 148)) := by rfl
theorem zy_149 : lw_tbl[486]? = some (.code (zname 149) (zcode 149) (zmaxL 149) (zret 149)) := by rfl
theorem zy_150 : lw_tbl[286]? = some (.code (zname 150) (zcode 150) (zmaxL 150) (zret 150)) := by rfl
def zYp : List Nat := [146, 260, 337, 573, 210, 283, 318, 441, 322, 437, 471, 179, 512, 519, 531, 535, 547, 555, 539, 551, 543, 80, 264, 367, 294, 475, 427, 445, 395, 399, 411, 326, 329, 166, 290, 310, 314, 297, 300, 72, 256, 341, 355, 371, 379, 387, 403, 415, 423, 449, 454, 459, 463, 467, 483, 494, 498, 509, 523, 527, 559, 569, 577, 582, 271, 345, 359, 375, 383, 391, 407, 419, 564, 333, 363, 351, 348, 279, 275, 432, 502, 479, 587, 668, 660, 855, 718, 746, 729, 733, 773, 689, 697, 693, 778, 707, 685, 681, 677, 673, 714, 711, 664, 726, 742, 754, 762, 770, 786, 794, 656, 722, 738, 750, 758, 766, 782, 790, 802, 810, 806, 814, 798, 818, 822, 826, 831, 839, 847, 843, 835, 851, 859, 867, 863, 871, 878, 897, 905, 893, 889, 901, 886, 882, 914, 909, 918, 922, 926, 486, 286, 0]
theorem zY_code : ∀ y, y < 151 → lw_tbl[zYp.getD y 0]? = some (.code (zname y) (zcode y) (zmaxL y) (zret y)) := fun y hy => match y, hy with
  | 0, _ => zy_0
  | 1, _ => zy_1
  | 2, _ => zy_2
  | 3, _ => zy_3
  | 4, _ => zy_4
  | 5, _ => zy_5
  | 6, _ => zy_6
  | 7, _ => zy_7
  | 8, _ => zy_8
  | 9, _ => zy_9
  | 10, _ => zy_10
  | 11, _ => zy_11
  | 12, _ => zy_12
  | 13, _ => zy_13
  | 14, _ => zy_14
  | 15, _ => zy_15
  | 16, _ => zy_16
  | 17, _ => zy_17
  | 18, _ => zy_18
  | 19, _ => zy_19
  | 20, _ => zy_20
  | 21, _ => zy_21
  | 22, _ => zy_22
  | 23, _ => zy_23
  | 24, _ => zy_24
  | 25, _ => zy_25
  | 26, _ => zy_26
  | 27, _ => zy_27
  | 28, _ => zy_28
  | 29, _ => zy_29
  | 30, _ => zy_30
  | 31, _ => zy_31
  | 32, _ => zy_32
  | 33, _ => zy_33
  | 34, _ => zy_34
  | 35, _ => zy_35
  | 36, _ => zy_36
  | 37, _ => zy_37
  | 38, _ => zy_38
  | 39, _ => zy_39
  | 40, _ => zy_40
  | 41, _ => zy_41
  | 42, _ => zy_42
  | 43, _ => zy_43
  | 44, _ => zy_44
  | 45, _ => zy_45
  | 46, _ => zy_46
  | 47, _ => zy_47
  | 48, _ => zy_48
  | 49, _ => zy_49
  | 50, _ => zy_50
  | 51, _ => zy_51
  | 52, _ => zy_52
  | 53, _ => zy_53
  | 54, _ => zy_54
  | 55, _ => zy_55
  | 56, _ => zy_56
  | 57, _ => zy_57
  | 58, _ => zy_58
  | 59, _ => zy_59
  | 60, _ => zy_60
  | 61, _ => zy_61
  | 62, _ => zy_62
  | 63, _ => zy_63
  | 64, _ => zy_64
  | 65, _ => zy_65
  | 66, _ => zy_66
  | 67, _ => zy_67
  | 68, _ => zy_68
  | 69, _ => zy_69
  | 70, _ => zy_70
  | 71, _ => zy_71
  | 72, _ => zy_72
  | 73, _ => zy_73
  | 74, _ => zy_74
  | 75, _ => zy_75
  | 76, _ => zy_76
  | 77, _ => zy_77
  | 78, _ => zy_78
  | 79, _ => zy_79
  | 80, _ => zy_80
  | 81, _ => zy_81
  | 82, _ => zy_82
  | 83, _ => zy_83
  | 84, _ => zy_84
  | 85, _ => zy_85
  | 86, _ => zy_86
  | 87, _ => zy_87
  | 88, _ => zy_88
  | 89, _ => zy_89
  | 90, _ => zy_90
  | 91, _ => zy_91
  | 92, _ => zy_92
  | 93, _ => zy_93
  | 94, _ => zy_94
  | 95, _ => zy_95
  | 96, _ => zy_96
  | 97, _ => zy_97
  | 98, _ => zy_98
  | 99, _ => zy_99
  | 100, _ => zy_100
  | 101, _ => zy_101
  | 102, _ => zy_102
  | 103, _ => zy_103
  | 104, _ => zy_104
  | 105, _ => zy_105
  | 106, _ => zy_106
  | 107, _ => zy_107
  | 108, _ => zy_108
  | 109, _ => zy_109
  | 110, _ => zy_110
  | 111, _ => zy_111
  | 112, _ => zy_112
  | 113, _ => zy_113
  | 114, _ => zy_114
  | 115, _ => zy_115
  | 116, _ => zy_116
  | 117, _ => zy_117
  | 118, _ => zy_118
  | 119, _ => zy_119
  | 120, _ => zy_120
  | 121, _ => zy_121
  | 122, _ => zy_122
  | 123, _ => zy_123
  | 124, _ => zy_124
  | 125, _ => zy_125
  | 126, _ => zy_126
  | 127, _ => zy_127
  | 128, _ => zy_128
  | 129, _ => zy_129
  | 130, _ => zy_130
  | 131, _ => zy_131
  | 132, _ => zy_132
  | 133, _ => zy_133
  | 134, _ => zy_134
  | 135, _ => zy_135
  | 136, _ => zy_136
  | 137, _ => zy_137
  | 138, _ => zy_138
  | 139, _ => zy_139
  | 140, _ => zy_140
  | 141, _ => zy_141
  | 142, _ => zy_142
  | 143, _ => zy_143
  | 144, _ => zy_144
  | 145, _ => zy_145
  | 146, _ => zy_146
  | 147, _ => zy_147
  | 148, _ => zy_148
  | 149, _ => zy_149
  | 150, _ => zy_150
  | n + 151, h => absurd h (by omega)
/-- what holds of each method that is called -/
def zYchk (y p : Nat) : Bool := decide (y < 151) && zplain (zname y).cls && decide ((parseMethodDescriptor (zname y).desc).map (fun d => d.parameters.length) = some (zna y)) && plainName (zname y).cls && decide ((zname y).cls = zOn (zown y))
def zCchk (q : (Nat × Nat) × (Nat × Nat) × List Nat) : Bool :=
  match q.2.2 with
  | [p0, p1, p2, p3, p4] =>
    if q.2.1.1 = 4 then decide (lw_tbl[p0]? = some (.methodLink (zOn q.1.1) q.1.2 objectInit)) && decide (lw_tbl[p1]? = some (.instanceMethod objectInit)) && decide (lw_tbl[p4]? = some (.code objectInit ⟨#[0xb1]⟩ 1 none))
    else if q.2.1.1 = 5 then decide (lw_tbl[p0]? = some (.methodLink (zOn q.1.1) q.1.2 arraycopyName)) && decide (lw_tbl[p1]? = some (.static arraycopyName)) && decide (lw_tbl[p2]? = some (.native arraycopyName)) && decide (lw_tbl[p3]? = some (.initialized "java/lang/System"))
    else if q.2.1.1 = 6 then decide (lw_tbl[p0]? = some (.methodLink (zOn q.1.1) q.1.2 Lib.Math.max.name)) && decide (lw_tbl[p1]? = some (.static Lib.Math.max.name)) && decide (lw_tbl[p3]? = some (.initialized "java/lang/Math")) && decide (lw_tbl[p4]? = some (.code Lib.Math.max.name Lib.Math.max.code 2 (some .int)))
    else if q.2.1.1 = 7 then decide (lw_tbl[p0]? = some (.methodLink (zOn q.1.1) q.1.2 Lib.Math.abs.name)) && decide (lw_tbl[p1]? = some (.static Lib.Math.abs.name)) && decide (lw_tbl[p3]? = some (.initialized "java/lang/Math")) && decide (lw_tbl[p4]? = some (.code Lib.Math.abs.name Lib.Math.abs.code 1 (some .int)))
    else decide (q.2.1.1 < 4) && decide (lw_tbl[p0]? = some (zLk q.1.1 q.1.2 q.2.1.1 q.2.1.2)) && decide (lw_tbl[p1]? = some (zCside q.2.1.1 q.2.1.2)) && decide (lw_tbl[p3]? = some (.initialized (zname q.2.1.2).cls)) && zYchk q.2.1.2 p4
      && (if q.2.1.1 = 0 then decide (lw_tbl[p2]? = some (.selects (zname q.2.1.2).cls (zname q.2.1.2) (zname q.2.1.2))) && decide (zown q.2.1.2 < 7) && decide ((zname q.2.1.2).name ≠ "<init>") else true)
      && (if q.2.1.1 = 2 ∨ q.2.1.1 = 3 then decide ((zname q.2.1.2).name = "<init>") && decide (zret q.2.1.2 = none) else true)
  | _ => false
theorem zCt_ok : ∀ q ∈ zCt, zCchk q = true := List.all_eq_true.mp (by decide +kernel)
def zcal (o i : Nat) : Option (Nat × Nat) := (zCt.find? (fun q => q.1.1 == o && q.1.2 == i)).map (fun q => q.2.1)
def zNchk (q : (Nat × Nat) × Nat × List Nat) : Bool :=
  match q.2.2 with
  | [p0, p1, p2] => decide (lw_tbl[p0]? = some (.classLink (zOn q.1.1) q.1.2 (zOn q.2.1))) && decide (lw_tbl[p1]? = some (.instantiable (zOn q.2.1) (zNF q.2.1))) && decide (lw_tbl[p2]? = some (.initialized (zOn q.2.1))) && decide (q.2.1 < 7)
  | _ => false
theorem zNt_ok : ∀ q ∈ zNt, zNchk q = true := List.all_eq_true.mp (by decide +kernel)
def znew (o i : Nat) : Option Nat := (zNt.find? (fun q => q.1.1 == o && q.1.2 == i)).map (fun q => q.2.1)
theorem zKt_ok : ∀ q ∈ zKt, decide (lw_tbl[q.2.2]? = some (.constant (zOn q.1.1) q.1.2 q.2.1)) = true := List.all_eq_true.mp (by decide +kernel)
def zldc (o i : Nat) : Option Int32 := (zKt.find? (fun q => q.1.1 == o && q.1.2 == i)).map (fun q => q.2.1)
theorem zJt_ok : ∀ q ∈ zJt, decide (lw_tbl[q.2.2]? = some (.constantLong (zOn q.1.1) q.1.2 q.2.1)) = true := List.all_eq_true.mp (by decide +kernel)
def zldc2 (o i : Nat) : Option Int64 := (zJt.find? (fun q => q.1.1 == o && q.1.2 == i)).map (fun q => q.2.1)
/-- the words that do not lie on the tables for good: nest mates' links; rows of references -/
def zNst : List Cond := lw_tbl.filter (fun w => match w with | .methodLinkNest .. => true | _ => false)
theorem zcl_u : ∀ c, c < 7 → ∀ k, k < zNF c → u_lay (zOn c) (zTT c) k ∈ lw_tbl := by
  intro c hc
  have h0 : ∀ w ∈ u_ws RX0 TX0 3, w ∈ lw_tbl := by decide +kernel
  have h1 : ∀ w ∈ u_ws RX1 TX1 4, w ∈ lw_tbl := by decide +kernel
  have h2 : ∀ w ∈ u_ws RX2 TX2 6, w ∈ lw_tbl := by decide +kernel
  have h3 : ∀ w ∈ u_ws RX3 TX3 13, w ∈ lw_tbl := by decide +kernel
  have h4 : ∀ w ∈ u_ws RX4 TX4 2, w ∈ lw_tbl := by decide +kernel
  have h5 : ∀ w ∈ u_ws RX5 TX5 8, w ∈ lw_tbl := by decide +kernel
  have h6 : ∀ w ∈ u_ws RX6 TX6 21, w ∈ lw_tbl := by decide +kernel
  intro k hk
  rcases (show c = 0 ∨ c = 1 ∨ c = 2 ∨ c = 3 ∨ c = 4 ∨ c = 5 ∨ c = 6 by omega) with rfl | rfl | rfl | rfl | rfl | rfl | rfl
  · exact h0 _ (u_in_lay hk)
  · exact h1 _ (u_in_lay hk)
  · exact h2 _ (u_in_lay hk)
  · exact h3 _ (u_in_lay hk)
  · exact h4 _ (u_in_lay hk)
  · exact h5 _ (u_in_lay hk)
  · exact h6 _ (u_in_lay hk)
end
